theorem dX11_leavesQueue_0 : decode cX11_leavesQueue 0 = .ok (.aload_n 0, 1) := by decide +kernel
theorem dX11_leavesQueue_1 : decode cX11_leavesQueue 1 = .ok (.iload_n 1, 1) := by decide +kernel
theorem dX11_leavesQueue_2 : decode cX11_leavesQueue 2 = .ok (.bipush 40, 2) := by decide +kernel
theorem dX11_leavesQueue_4 : decode cX11_leavesQueue 4 = .ok (.invokevirtual 209, 3) := by decide +kernel
theorem dX11_leavesQueue_7 : decode cX11_leavesQueue 7 = .ok (.istore_n 2, 1) := by decide +kernel
theorem dX11_leavesQueue_8 : decode cX11_leavesQueue 8 = .ok (.iconst 0, 1) := by decide +kernel
theorem dX11_leavesQueue_9 : decode cX11_leavesQueue 9 = .ok (.istore_n 3, 1) := by decide +kernel
theorem dX11_leavesQueue_10 : decode cX11_leavesQueue 10 = .ok (.iload_n 3, 1) := by decide +kernel
theorem dX11_leavesQueue_11 : decode cX11_leavesQueue 11 = .ok (.iconst 1, 1) := by decide +kernel
theorem dX11_leavesQueue_12 : decode cX11_leavesQueue 12 = .ok (.iadd, 1) := by decide +kernel
theorem dX11_leavesQueue_13 : decode cX11_leavesQueue 13 = .ok (.iconst 4, 1) := by decide +kernel
theorem dX11_leavesQueue_14 : decode cX11_leavesQueue 14 = .ok (.if_icmp .ge 29, 3) := by decide +kernel
theorem dX11_leavesQueue_17 : decode cX11_leavesQueue 17 = .ok (.aload_n 0, 1) := by decide +kernel
theorem dX11_leavesQueue_18 : decode cX11_leavesQueue 18 = .ok (.iload_n 1, 1) := by decide +kernel
theorem dX11_leavesQueue_19 : decode cX11_leavesQueue 19 = .ok (.bipush 40, 2) := by decide +kernel
theorem dX11_leavesQueue_21 : decode cX11_leavesQueue 21 = .ok (.iload_n 3, 1) := by decide +kernel
theorem dX11_leavesQueue_22 : decode cX11_leavesQueue 22 = .ok (.iadd, 1) := by decide +kernel
theorem dX11_leavesQueue_23 : decode cX11_leavesQueue 23 = .ok (.aload_n 0, 1) := by decide +kernel
theorem dX11_leavesQueue_24 : decode cX11_leavesQueue 24 = .ok (.iload_n 1, 1) := by decide +kernel
theorem dX11_leavesQueue_25 : decode cX11_leavesQueue 25 = .ok (.bipush 40, 2) := by decide +kernel
theorem dX11_leavesQueue_27 : decode cX11_leavesQueue 27 = .ok (.iload_n 3, 1) := by decide +kernel
theorem dX11_leavesQueue_28 : decode cX11_leavesQueue 28 = .ok (.iadd, 1) := by decide +kernel
theorem dX11_leavesQueue_29 : decode cX11_leavesQueue 29 = .ok (.iconst 1, 1) := by decide +kernel
theorem dX11_leavesQueue_30 : decode cX11_leavesQueue 30 = .ok (.iadd, 1) := by decide +kernel
theorem dX11_leavesQueue_31 : decode cX11_leavesQueue 31 = .ok (.invokevirtual 209, 3) := by decide +kernel
theorem dX11_leavesQueue_34 : decode cX11_leavesQueue 34 = .ok (.invokevirtual 234, 3) := by decide +kernel
theorem dX11_leavesQueue_37 : decode cX11_leavesQueue 37 = .ok (.iinc 3 1, 3) := by decide +kernel
theorem dX11_leavesQueue_40 : decode cX11_leavesQueue 40 = .ok (.goto (-30), 3) := by decide +kernel
theorem dX11_leavesQueue_43 : decode cX11_leavesQueue 43 = .ok (.aload_n 0, 1) := by decide +kernel
theorem dX11_leavesQueue_44 : decode cX11_leavesQueue 44 = .ok (.iload_n 1, 1) := by decide +kernel
theorem dX11_leavesQueue_45 : decode cX11_leavesQueue 45 = .ok (.bipush 39, 2) := by decide +kernel
theorem dX11_leavesQueue_47 : decode cX11_leavesQueue 47 = .ok (.aload_n 0, 1) := by decide +kernel
theorem dX11_leavesQueue_48 : decode cX11_leavesQueue 48 = .ok (.iload_n 1, 1) := by decide +kernel
theorem dX11_leavesQueue_49 : decode cX11_leavesQueue 49 = .ok (.bipush 39, 2) := by decide +kernel
theorem dX11_leavesQueue_51 : decode cX11_leavesQueue 51 = .ok (.invokevirtual 209, 3) := by decide +kernel
theorem dX11_leavesQueue_54 : decode cX11_leavesQueue 54 = .ok (.iconst 1, 1) := by decide +kernel
theorem dX11_leavesQueue_55 : decode cX11_leavesQueue 55 = .ok (.isub, 1) := by decide +kernel
theorem dX11_leavesQueue_56 : decode cX11_leavesQueue 56 = .ok (.invokevirtual 234, 3) := by decide +kernel
theorem dX11_leavesQueue_59 : decode cX11_leavesQueue 59 = .ok (.iload_n 2, 1) := by decide +kernel
theorem dX11_leavesQueue_60 : decode cX11_leavesQueue 60 = .ok (.ireturn, 1) := by decide +kernel
set_option maxRecDepth 100000 in
set_option maxHeartbeats 4000000 in
theorem m_X11_leavesQueue (l : Launch) (D : va_G) (ct : Nat → ClassId) (S : ty_S) (ws : va_W) (ph : va_W → Prop) (xx : Nat → Nat → Nat → Prop) (mo : Nat) (mw : Nat) (ma : Nat) (mf : Nat) (m0 : Nat) (m1 : Nat) (mu : Nat) (mv : Nat) (u0 : Nat) (u1 : Nat) (iz : Nat) (mb : Nat) (th : Int32) (mn : Int32) (mpt : Int32) (mbg : Int32) (mwr : Int32) (mwk : Int32) (mlf : Int32) (men : Int32) (f : Nat → Int32) (G : Nat → Int32) (cx : Int) (p1 : Int32) (sz : Nat) (hT : ty_V ct S ph ws) (h_mu : S mu = some (.inr (1, 42))) (h_mv : S mv = some (.inr (1, 42))) (h_u0 : S u0 = some (.inr (1, 42))) (h_u1 : S u1 = some (.inr (1, 42))) (hph : ty_C ph xx) (hy1 : ty_y1 xx) (hR : rf_R G cx f) (hc : 0 ≤ p1.toInt ∧ p1.toInt < (G 9).toInt) (hq : 1 ≤ (rf_of f p1 39).toInt) : Met l yX11_leavesQueue (ws_ yX11_leavesQueue cX11_leavesQueue 4 (some .int)) ({ frames := 1, cells := 0, slots := 0, locals := 23 } : Room) (va_Pc [.ref mo, .int p1] (cmP D ct sz ([(rf_MO mo mw ma mf m0 m1 mu mv u0 u1 iz th mb mn mpt mbg mwr mwk mlf men), (rf_RW ct 0 mw 958 f)] ++ ws))) (va_Qi (fun (r : Int32) (u : va_W × (Nat → Int32)) => match u with | (u9, f1) => ty_V ct S ph u9 ∧ rf_d (f 8) f f1 ∧ rf_R G cx f1 ∧ rf_sm f f1 ∧ 0 ≤ r.toInt ∧ r.toInt < (G 10).toInt) (cmB D ([(rf_MO mo mw ma mf m0 m1 mu mv u0 u1 iz th mb mn mpt mbg mwr mwk mlf men), (rf_RW ct 0 mw 958 f)] ++ ws) sz (fun (u : va_W × (Nat → Int32)) => match u with | (u9, f1) => ([(rf_MO mo mw ma mf m0 m1 mu mv u0 u1 iz th mb mn mpt mbg mwr mwk mlf men), (rf_RW ct 0 mw 958 f1)] ++ u9))) (va_A ([(rf_MO mo mw ma mf m0 m1 mu mv u0 u1 iz th mb mn mpt mbg mwr mwk mlf men), (rf_RW ct 0 mw 958 f)] ++ ws) sz)) 0 0 (va_A ([(rf_MO mo mw ma mf m0 m1 mu mv u0 u1 iz th mb mn mpt mbg mwr mwk mlf men), (rf_RW ct 0 mw 958 f)] ++ ws) sz) := by
  refine Met.ofW (cc := cX11_leavesQueue) (maxL := 4) (ret := (some .int)) (by decide) rfl ?_
  intro p e s m args below meth c s₁ B hml hv
  obtain ⟨rfl, hsz, hP, hK, hD0, hX⟩ := hv
  have hx := B.exec
  have hb := B.bytes
  have hr := B.returns
  have hts := ws_all (atoms_spec (ws := ws_ yX11_leavesQueue cX11_leavesQueue 4 (some .int)) B.pre)
  have hown : s.vm.findClass RX11 = some m.cls := findClass_of_methodNamed B.named
  have hlocks := B.notSynchronized
  subst hsz
  have hD := hD0.self (sz := s.heap.size)
  generalize hAe : va_A ([(rf_MO mo mw ma mf m0 m1 mu mv u0 u1 iz th mb mn mpt mbg mwr mwk mlf men), (rf_RW ct 0 mw 958 f)] ++ ws) s.heap.size = A at hD hX ⊢
  have hA : ∀ q : Nat, s.heap.size ≤ q → A q := fun q h => by rw [← hAe]; exact Or.inr h
  have hS : va_S A s.heap s.heap [] := va_S.rf
  have hl := lv_entry ([.ref mo, .int p1]) (n := 4) (Nat.le_of_ble_eq_true rfl)
  rw [lg_entry_eq]
  generalize (lg_sl ([.ref mo, .int p1]) ++ List.replicate (4 - (lg_sl ([.ref mo, .int p1])).length) Slot.unset).toArray = ls at hl ⊢
  have hl : lv_has ls 4 [(0, .ref mo), (1, .int p1)] := hl
  refine lv_aload_n hx hb dX11_leavesQueue_0 rfl (lv_at hl 0 rfl) ?_
  refine lv_iload_n hx hb dX11_leavesQueue_1 rfl (lv_at hl 1 rfl) ?_
  refine lv_bipush (v := 40) hx hb dX11_leavesQueue_2 (by decide) ?_
  refine ty_ki (wr := []) (wc := ([(rf_MO mo mw ma mf m0 m1 mu mv u0 u1 iz th mb mn mpt mbg mwr mwk mlf men), (rf_RW ct 0 mw 958 f)] ++ ws)) (va_runV (As := [.int p1, .int 40]) (rest := []) ⟨hx, hb, hml, hown, hts⟩ (m_of_40 l D ct S ws ph xx mo mw ma mf m0 m1 mu mv u0 u1 iz mb th mn mpt mbg mwr mwk mlf men f G cx p1 _ hT h_mu h_mv h_u0 h_u1 hph hy1 hR hc) (cm_V 2 hts kc_X11_of ki_RX11 kl_RX11_209 kv_X11_of kx_X11_of kd_X11_of ⟨Nat.le_of_ble_eq_true rfl, Nat.le_of_ble_eq_true rfl⟩) (ty_preE (wr := []) (wc := ([(rf_MO mo mw ma mf m0 m1 mu mv u0 u1 iz th mb mn mpt mbg mwr mwk mlf men), (rf_RW ct 0 mw 958 f)] ++ ws)) (ci := 11) (q0 := 0) hP hK hD hS hA hX rfl rfl) rfl rfl hl.1 rfl (lv_room (Nat.le_of_ble_eq_true rfl)) dX11_leavesQueue_4 ⟨Nat.le_of_ble_eq_true rfl, Nat.le_of_ble_eq_true rfl⟩) hP hD hS hA (fun r_1 u H locs hw_2 hP hD hS => ?_)
  obtain ⟨ws_3, rfl⟩ : ∃ z, z = u := ⟨_, rfl⟩
  obtain ⟨hT, rfl⟩ := hw_2
  have hP : va_P D vwCl ([(rf_MO mo mw ma mf m0 m1 mu mv u0 u1 iz th mb mn mpt mbg mwr mwk mlf men), (rf_RW ct 0 mw 958 f)] ++ ws_3) H := hP
  have hD : va_D A ([(rf_MO mo mw ma mf m0 m1 mu mv u0 u1 iz th mb mn mpt mbg mwr mwk mlf men), (rf_RW ct 0 mw 958 f)] ++ ws_3) := hD
  refine lv_istore_n (lv' := [(2, .int (rf_of f p1 40)), (0, .ref mo), (1, .int p1)]) hx hb dX11_leavesQueue_7 rfl hl (by decide) rfl (fun ls hl => ?_)
  refine lv_iconst (v := 0) hx hb dX11_leavesQueue_8 (by decide) ?_
  refine lv_istore_n (lv' := [(3, .int 0), (2, .int (rf_of f p1 40)), (0, .ref mo), (1, .int p1)]) hx hb dX11_leavesQueue_9 rfl hl (by decide) rfl (fun ls hl => ?_)
  refine lv_iload_n hx hb dX11_leavesQueue_10 rfl (lv_at hl 0 rfl) ?_
  refine lv_iconst (v := 1) hx hb dX11_leavesQueue_11 (by decide) ?_
  refine lv_iadd hx hb dX11_leavesQueue_12 ?_
  refine cm_cst (y := 1) (by decide) ?_
  refine lv_iconst (v := 4) hx hb dX11_leavesQueue_13 (by decide) ?_
  refine lv_icmp_ge (tgt := 43) hx hb dX11_leavesQueue_14 (by decide) (fun hc => absurd hc (by decide)) (fun _ => ?_)
  refine lv_aload_n hx hb dX11_leavesQueue_17 rfl (lv_at hl 2 rfl) ?_
  refine lv_iload_n hx hb dX11_leavesQueue_18 rfl (lv_at hl 3 rfl) ?_
  refine lv_bipush (v := 40) hx hb dX11_leavesQueue_19 (by decide) ?_
  refine lv_iload_n hx hb dX11_leavesQueue_21 rfl (lv_at hl 0 rfl) ?_
  refine lv_iadd hx hb dX11_leavesQueue_22 ?_
  refine cm_cst (y := 40) (by decide) ?_
  refine lv_aload_n hx hb dX11_leavesQueue_23 rfl (lv_at hl 2 rfl) ?_
  refine lv_iload_n hx hb dX11_leavesQueue_24 rfl (lv_at hl 3 rfl) ?_
  refine lv_bipush (v := 40) hx hb dX11_leavesQueue_25 (by decide) ?_
  refine lv_iload_n hx hb dX11_leavesQueue_27 rfl (lv_at hl 0 rfl) ?_
  refine lv_iadd hx hb dX11_leavesQueue_28 ?_
  refine cm_cst (y := 40) (by decide) ?_
  refine lv_iconst (v := 1) hx hb dX11_leavesQueue_29 (by decide) ?_
  refine lv_iadd hx hb dX11_leavesQueue_30 ?_
  refine cm_cst (y := 41) (by decide) ?_
  refine ty_ki (wr := []) (wc := ([(rf_MO mo mw ma mf m0 m1 mu mv u0 u1 iz th mb mn mpt mbg mwr mwk mlf men), (rf_RW ct 0 mw 958 f)] ++ ws_3)) (va_runV (As := [.int p1, .int 41]) (rest := [.int 40, .int p1, .ref mo]) ⟨hx, hb, hml, hown, hts⟩ (m_of_41 l D ct S ws_3 ph xx mo mw ma mf m0 m1 mu mv u0 u1 iz mb th mn mpt mbg mwr mwk mlf men f G cx p1 _ hT h_mu h_mv h_u0 h_u1 hph hy1 hR hc) (cm_V 2 hts kc_X11_of ki_RX11 kl_RX11_209 kv_X11_of kx_X11_of kd_X11_of ⟨Nat.le_of_ble_eq_true rfl, Nat.le_of_ble_eq_true rfl⟩) (ty_preE (wr := []) (wc := ([(rf_MO mo mw ma mf m0 m1 mu mv u0 u1 iz th mb mn mpt mbg mwr mwk mlf men), (rf_RW ct 0 mw 958 f)] ++ ws_3)) (ci := 11) (q0 := 0) hP hK hD hS hA hX rfl rfl) rfl rfl hl.1 rfl (lv_room (Nat.le_of_ble_eq_true rfl)) dX11_leavesQueue_31 ⟨Nat.le_of_ble_eq_true rfl, Nat.le_of_ble_eq_true rfl⟩) hP hD hS hA (fun r_4 u H locs hw_5 hP hD hS => ?_)
  obtain ⟨ws_6, rfl⟩ : ∃ z, z = u := ⟨_, rfl⟩
  obtain ⟨hT, rfl⟩ := hw_5
  have hP : va_P D vwCl ([(rf_MO mo mw ma mf m0 m1 mu mv u0 u1 iz th mb mn mpt mbg mwr mwk mlf men), (rf_RW ct 0 mw 958 f)] ++ ws_6) H := hP
  have hD : va_D A ([(rf_MO mo mw ma mf m0 m1 mu mv u0 u1 iz th mb mn mpt mbg mwr mwk mlf men), (rf_RW ct 0 mw 958 f)] ++ ws_6) := hD
  refine ty_kv (wr := []) (wc := ([(rf_MO mo mw ma mf m0 m1 mu mv u0 u1 iz th mb mn mpt mbg mwr mwk mlf men), (rf_RW ct 0 mw 958 f)] ++ ws_6)) (va_runV (As := [.int p1, .int 40, .int (rf_of f p1 41)]) (rest := []) ⟨hx, hb, hml, hown, hts⟩ (m_put_40 l D ct S ws_6 ph xx mo mw ma mf m0 m1 mu mv u0 u1 iz mb th mn mpt mbg mwr mwk mlf men f G cx p1 (rf_of f p1 41) _ hT h_mu h_mv h_u0 h_u1 hph hy1 hR hc (fun _ => (rf_q40 hR hc).2.1)) (cm_V 3 hts kc_X11_put ki_RX11 kl_RX11_234 kv_X11_put kx_X11_put kd_X11_put ⟨Nat.le_of_ble_eq_true rfl, Nat.le_of_ble_eq_true rfl⟩) (ty_preE (wr := []) (wc := ([(rf_MO mo mw ma mf m0 m1 mu mv u0 u1 iz th mb mn mpt mbg mwr mwk mlf men), (rf_RW ct 0 mw 958 f)] ++ ws_6)) (ci := 11) (q0 := 0) hP hK hD hS hA hX rfl rfl) rfl rfl hl.1 rfl (lv_room (Nat.le_of_ble_eq_true rfl)) dX11_leavesQueue_34 ⟨Nat.le_of_ble_eq_true rfl, Nat.le_of_ble_eq_true rfl⟩) hP hD hS hA (fun u H locs hw_8 hP hD hS => ?_)
  obtain ⟨ws_9, f1_10⟩ := u
  obtain ⟨hT, hp_11⟩ := hw_8
  have hp_11 : rf_d (f 8) f f1_10 ∧ rf_R G cx f1_10 ∧ rf_sm f f1_10 ∧ f1_10 = upd f (244 + 54 * p1.toInt.toNat + 40) (rf_of f p1 41) := hp_11
  obtain ⟨hd_12, hq_13⟩ := hp_11
  have hD_14 := rf_dt (rf_dr f) hd_12
  have hR_15 := hq_13.1
  have hM_16 := rf_smt (rf_smr f) hq_13.2.1
  have hP : va_P D vwCl ([(rf_MO mo mw ma mf m0 m1 mu mv u0 u1 iz th mb mn mpt mbg mwr mwk mlf men), (rf_RW ct 0 mw 958 f1_10)] ++ ws_9) H := hP
  have hD : va_D A ([(rf_MO mo mw ma mf m0 m1 mu mv u0 u1 iz th mb mn mpt mbg mwr mwk mlf men), (rf_RW ct 0 mw 958 f1_10)] ++ ws_9) := hD
  have hq9_17 : rf_of f1_10 p1 39 = rf_of f p1 39 := by rw [hq_13.2.2]; exact (rf_ne (by decide)).trans rfl
  refine lv_iinc (v := 1) (lv' := [(3, .int 1), (2, .int (rf_of f p1 40)), (0, .ref mo), (1, .int p1)]) hx hb dX11_leavesQueue_37 hl (k := 0) rfl (by decide) (by decide) rfl (fun ls hl => ?_)
  refine lv_goto (tgt := 10) hx hb dX11_leavesQueue_40 (by decide) ?_
  refine lv_iload_n hx hb dX11_leavesQueue_10 rfl (lv_at hl 0 rfl) ?_
  refine lv_iconst (v := 1) hx hb dX11_leavesQueue_11 (by decide) ?_
  refine lv_iadd hx hb dX11_leavesQueue_12 ?_
  refine cm_cst (y := 2) (by decide) ?_
  refine lv_iconst (v := 4) hx hb dX11_leavesQueue_13 (by decide) ?_
  refine lv_icmp_ge (tgt := 43) hx hb dX11_leavesQueue_14 (by decide) (fun hc => absurd hc (by decide)) (fun _ => ?_)
  refine lv_aload_n hx hb dX11_leavesQueue_17 rfl (lv_at hl 2 rfl) ?_
  refine lv_iload_n hx hb dX11_leavesQueue_18 rfl (lv_at hl 3 rfl) ?_
  refine lv_bipush (v := 40) hx hb dX11_leavesQueue_19 (by decide) ?_
  refine lv_iload_n hx hb dX11_leavesQueue_21 rfl (lv_at hl 0 rfl) ?_
  refine lv_iadd hx hb dX11_leavesQueue_22 ?_
  refine cm_cst (y := 41) (by decide) ?_
  refine lv_aload_n hx hb dX11_leavesQueue_23 rfl (lv_at hl 2 rfl) ?_
  refine lv_iload_n hx hb dX11_leavesQueue_24 rfl (lv_at hl 3 rfl) ?_
  refine lv_bipush (v := 40) hx hb dX11_leavesQueue_25 (by decide) ?_
  refine lv_iload_n hx hb dX11_leavesQueue_27 rfl (lv_at hl 0 rfl) ?_
  refine lv_iadd hx hb dX11_leavesQueue_28 ?_
  refine cm_cst (y := 41) (by decide) ?_
  refine lv_iconst (v := 1) hx hb dX11_leavesQueue_29 (by decide) ?_
  refine lv_iadd hx hb dX11_leavesQueue_30 ?_
  refine cm_cst (y := 42) (by decide) ?_
  refine ty_ki (wr := []) (wc := ([(rf_MO mo mw ma mf m0 m1 mu mv u0 u1 iz th mb mn mpt mbg mwr mwk mlf men), (rf_RW ct 0 mw 958 f1_10)] ++ ws_9)) (va_runV (As := [.int p1, .int 42]) (rest := [.int 41, .int p1, .ref mo]) ⟨hx, hb, hml, hown, hts⟩ (m_of_42 l D ct S ws_9 ph xx mo mw ma mf m0 m1 mu mv u0 u1 iz mb th mn mpt mbg mwr mwk mlf men f1_10 G cx p1 _ hT h_mu h_mv h_u0 h_u1 hph hy1 hR_15 hc) (cm_V 2 hts kc_X11_of ki_RX11 kl_RX11_209 kv_X11_of kx_X11_of kd_X11_of ⟨Nat.le_of_ble_eq_true rfl, Nat.le_of_ble_eq_true rfl⟩) (ty_preE (wr := []) (wc := ([(rf_MO mo mw ma mf m0 m1 mu mv u0 u1 iz th mb mn mpt mbg mwr mwk mlf men), (rf_RW ct 0 mw 958 f1_10)] ++ ws_9)) (ci := 11) (q0 := 0) hP hK hD hS hA hX rfl rfl) rfl rfl hl.1 rfl (lv_room (Nat.le_of_ble_eq_true rfl)) dX11_leavesQueue_31 ⟨Nat.le_of_ble_eq_true rfl, Nat.le_of_ble_eq_true rfl⟩) hP hD hS hA (fun r_18 u H locs hw_19 hP hD hS => ?_)
  obtain ⟨ws_20, rfl⟩ : ∃ z, z = u := ⟨_, rfl⟩
  obtain ⟨hT, rfl⟩ := hw_19
  have hP : va_P D vwCl ([(rf_MO mo mw ma mf m0 m1 mu mv u0 u1 iz th mb mn mpt mbg mwr mwk mlf men), (rf_RW ct 0 mw 958 f1_10)] ++ ws_20) H := hP
  have hD : va_D A ([(rf_MO mo mw ma mf m0 m1 mu mv u0 u1 iz th mb mn mpt mbg mwr mwk mlf men), (rf_RW ct 0 mw 958 f1_10)] ++ ws_20) := hD
  refine ty_kv (wr := []) (wc := ([(rf_MO mo mw ma mf m0 m1 mu mv u0 u1 iz th mb mn mpt mbg mwr mwk mlf men), (rf_RW ct 0 mw 958 f1_10)] ++ ws_20)) (va_runV (As := [.int p1, .int 41, .int (rf_of f1_10 p1 42)]) (rest := []) ⟨hx, hb, hml, hown, hts⟩ (m_put_41 l D ct S ws_20 ph xx mo mw ma mf m0 m1 mu mv u0 u1 iz mb th mn mpt mbg mwr mwk mlf men f1_10 G cx p1 (rf_of f1_10 p1 42) _ hT h_mu h_mv h_u0 h_u1 hph hy1 hR_15 hc (fun _ => (rf_q40 hR_15 hc).2.2.1)) (cm_V 3 hts kc_X11_put ki_RX11 kl_RX11_234 kv_X11_put kx_X11_put kd_X11_put ⟨Nat.le_of_ble_eq_true rfl, Nat.le_of_ble_eq_true rfl⟩) (ty_preE (wr := []) (wc := ([(rf_MO mo mw ma mf m0 m1 mu mv u0 u1 iz th mb mn mpt mbg mwr mwk mlf men), (rf_RW ct 0 mw 958 f1_10)] ++ ws_20)) (ci := 11) (q0 := 0) hP hK hD hS hA hX rfl rfl) rfl rfl hl.1 rfl (lv_room (Nat.le_of_ble_eq_true rfl)) dX11_leavesQueue_34 ⟨Nat.le_of_ble_eq_true rfl, Nat.le_of_ble_eq_true rfl⟩) hP hD hS hA (fun u H locs hw_22 hP hD hS => ?_)
  obtain ⟨ws_23, f1_24⟩ := u
  obtain ⟨hT, hp_25⟩ := hw_22
  have hp_25 : rf_d (f1_10 8) f1_10 f1_24 ∧ rf_R G cx f1_24 ∧ rf_sm f1_10 f1_24 ∧ f1_24 = upd f1_10 (244 + 54 * p1.toInt.toNat + 41) (rf_of f1_10 p1 42) := hp_25
  obtain ⟨hd_26, hq_27⟩ := hp_25
  have hD_28 := rf_dt hD_14 hd_26
  have hR_29 := hq_27.1
  have hM_30 := rf_smt hM_16 hq_27.2.1
  have hP : va_P D vwCl ([(rf_MO mo mw ma mf m0 m1 mu mv u0 u1 iz th mb mn mpt mbg mwr mwk mlf men), (rf_RW ct 0 mw 958 f1_24)] ++ ws_23) H := hP
  have hD : va_D A ([(rf_MO mo mw ma mf m0 m1 mu mv u0 u1 iz th mb mn mpt mbg mwr mwk mlf men), (rf_RW ct 0 mw 958 f1_24)] ++ ws_23) := hD
  have hq9_31 : rf_of f1_24 p1 39 = rf_of f p1 39 := by rw [hq_27.2.2]; exact (rf_ne (by decide)).trans hq9_17
  refine lv_iinc (v := 2) (lv' := [(3, .int 2), (2, .int (rf_of f p1 40)), (0, .ref mo), (1, .int p1)]) hx hb dX11_leavesQueue_37 hl (k := 0) rfl (by decide) (by decide) rfl (fun ls hl => ?_)
  refine lv_goto (tgt := 10) hx hb dX11_leavesQueue_40 (by decide) ?_
  refine lv_iload_n hx hb dX11_leavesQueue_10 rfl (lv_at hl 0 rfl) ?_
  refine lv_iconst (v := 1) hx hb dX11_leavesQueue_11 (by decide) ?_
  refine lv_iadd hx hb dX11_leavesQueue_12 ?_
  refine cm_cst (y := 3) (by decide) ?_
  refine lv_iconst (v := 4) hx hb dX11_leavesQueue_13 (by decide) ?_
  refine lv_icmp_ge (tgt := 43) hx hb dX11_leavesQueue_14 (by decide) (fun hc => absurd hc (by decide)) (fun _ => ?_)
  refine lv_aload_n hx hb dX11_leavesQueue_17 rfl (lv_at hl 2 rfl) ?_
  refine lv_iload_n hx hb dX11_leavesQueue_18 rfl (lv_at hl 3 rfl) ?_
  refine lv_bipush (v := 40) hx hb dX11_leavesQueue_19 (by decide) ?_
  refine lv_iload_n hx hb dX11_leavesQueue_21 rfl (lv_at hl 0 rfl) ?_
  refine lv_iadd hx hb dX11_leavesQueue_22 ?_
  refine cm_cst (y := 42) (by decide) ?_
  refine lv_aload_n hx hb dX11_leavesQueue_23 rfl (lv_at hl 2 rfl) ?_
  refine lv_iload_n hx hb dX11_leavesQueue_24 rfl (lv_at hl 3 rfl) ?_
  refine lv_bipush (v := 40) hx hb dX11_leavesQueue_25 (by decide) ?_
  refine lv_iload_n hx hb dX11_leavesQueue_27 rfl (lv_at hl 0 rfl) ?_
  refine lv_iadd hx hb dX11_leavesQueue_28 ?_
  refine cm_cst (y := 42) (by decide) ?_
  refine lv_iconst (v := 1) hx hb dX11_leavesQueue_29 (by decide) ?_
  refine lv_iadd hx hb dX11_leavesQueue_30 ?_
  refine cm_cst (y := 43) (by decide) ?_
  refine ty_ki (wr := []) (wc := ([(rf_MO mo mw ma mf m0 m1 mu mv u0 u1 iz th mb mn mpt mbg mwr mwk mlf men), (rf_RW ct 0 mw 958 f1_24)] ++ ws_23)) (va_runV (As := [.int p1, .int 43]) (rest := [.int 42, .int p1, .ref mo]) ⟨hx, hb, hml, hown, hts⟩ (m_of_43 l D ct S ws_23 ph xx mo mw ma mf m0 m1 mu mv u0 u1 iz mb th mn mpt mbg mwr mwk mlf men f1_24 G cx p1 _ hT h_mu h_mv h_u0 h_u1 hph hy1 hR_29 hc) (cm_V 2 hts kc_X11_of ki_RX11 kl_RX11_209 kv_X11_of kx_X11_of kd_X11_of ⟨Nat.le_of_ble_eq_true rfl, Nat.le_of_ble_eq_true rfl⟩) (ty_preE (wr := []) (wc := ([(rf_MO mo mw ma mf m0 m1 mu mv u0 u1 iz th mb mn mpt mbg mwr mwk mlf men), (rf_RW ct 0 mw 958 f1_24)] ++ ws_23)) (ci := 11) (q0 := 0) hP hK hD hS hA hX rfl rfl) rfl rfl hl.1 rfl (lv_room (Nat.le_of_ble_eq_true rfl)) dX11_leavesQueue_31 ⟨Nat.le_of_ble_eq_true rfl, Nat.le_of_ble_eq_true rfl⟩) hP hD hS hA (fun r_32 u H locs hw_33 hP hD hS => ?_)
  obtain ⟨ws_34, rfl⟩ : ∃ z, z = u := ⟨_, rfl⟩
  obtain ⟨hT, rfl⟩ := hw_33
  have hP : va_P D vwCl ([(rf_MO mo mw ma mf m0 m1 mu mv u0 u1 iz th mb mn mpt mbg mwr mwk mlf men), (rf_RW ct 0 mw 958 f1_24)] ++ ws_34) H := hP
  have hD : va_D A ([(rf_MO mo mw ma mf m0 m1 mu mv u0 u1 iz th mb mn mpt mbg mwr mwk mlf men), (rf_RW ct 0 mw 958 f1_24)] ++ ws_34) := hD
  refine ty_kv (wr := []) (wc := ([(rf_MO mo mw ma mf m0 m1 mu mv u0 u1 iz th mb mn mpt mbg mwr mwk mlf men), (rf_RW ct 0 mw 958 f1_24)] ++ ws_34)) (va_runV (As := [.int p1, .int 42, .int (rf_of f1_24 p1 43)]) (rest := []) ⟨hx, hb, hml, hown, hts⟩ (m_put_42 l D ct S ws_34 ph xx mo mw ma mf m0 m1 mu mv u0 u1 iz mb th mn mpt mbg mwr mwk mlf men f1_24 G cx p1 (rf_of f1_24 p1 43) _ hT h_mu h_mv h_u0 h_u1 hph hy1 hR_29 hc (fun _ => (rf_q40 hR_29 hc).2.2.2)) (cm_V 3 hts kc_X11_put ki_RX11 kl_RX11_234 kv_X11_put kx_X11_put kd_X11_put ⟨Nat.le_of_ble_eq_true rfl, Nat.le_of_ble_eq_true rfl⟩) (ty_preE (wr := []) (wc := ([(rf_MO mo mw ma mf m0 m1 mu mv u0 u1 iz th mb mn mpt mbg mwr mwk mlf men), (rf_RW ct 0 mw 958 f1_24)] ++ ws_34)) (ci := 11) (q0 := 0) hP hK hD hS hA hX rfl rfl) rfl rfl hl.1 rfl (lv_room (Nat.le_of_ble_eq_true rfl)) dX11_leavesQueue_34 ⟨Nat.le_of_ble_eq_true rfl, Nat.le_of_ble_eq_true rfl⟩) hP hD hS hA (fun u H locs hw_36 hP hD hS => ?_)
  obtain ⟨ws_37, f1_38⟩ := u
  obtain ⟨hT, hp_39⟩ := hw_36
  have hp_39 : rf_d (f1_24 8) f1_24 f1_38 ∧ rf_R G cx f1_38 ∧ rf_sm f1_24 f1_38 ∧ f1_38 = upd f1_24 (244 + 54 * p1.toInt.toNat + 42) (rf_of f1_24 p1 43) := hp_39
  obtain ⟨hd_40, hq_41⟩ := hp_39
  have hD_42 := rf_dt hD_28 hd_40
  have hR_43 := hq_41.1
  have hM_44 := rf_smt hM_30 hq_41.2.1
  have hP : va_P D vwCl ([(rf_MO mo mw ma mf m0 m1 mu mv u0 u1 iz th mb mn mpt mbg mwr mwk mlf men), (rf_RW ct 0 mw 958 f1_38)] ++ ws_37) H := hP
  have hD : va_D A ([(rf_MO mo mw ma mf m0 m1 mu mv u0 u1 iz th mb mn mpt mbg mwr mwk mlf men), (rf_RW ct 0 mw 958 f1_38)] ++ ws_37) := hD
  have hq9_45 : rf_of f1_38 p1 39 = rf_of f p1 39 := by rw [hq_41.2.2]; exact (rf_ne (by decide)).trans hq9_31
  refine lv_iinc (v := 3) (lv' := [(3, .int 3), (2, .int (rf_of f p1 40)), (0, .ref mo), (1, .int p1)]) hx hb dX11_leavesQueue_37 hl (k := 0) rfl (by decide) (by decide) rfl (fun ls hl => ?_)
  refine lv_goto (tgt := 10) hx hb dX11_leavesQueue_40 (by decide) ?_
  refine lv_iload_n hx hb dX11_leavesQueue_10 rfl (lv_at hl 0 rfl) ?_
  refine lv_iconst (v := 1) hx hb dX11_leavesQueue_11 (by decide) ?_
  refine lv_iadd hx hb dX11_leavesQueue_12 ?_
  refine cm_cst (y := 4) (by decide) ?_
  refine lv_iconst (v := 4) hx hb dX11_leavesQueue_13 (by decide) ?_
  refine lv_icmp_ge (tgt := 43) hx hb dX11_leavesQueue_14 (by decide) (fun _ => ?_) (fun hc => absurd (by decide) hc)
  refine lv_aload_n hx hb dX11_leavesQueue_43 rfl (lv_at hl 2 rfl) ?_
  refine lv_iload_n hx hb dX11_leavesQueue_44 rfl (lv_at hl 3 rfl) ?_
  refine lv_bipush (v := 39) hx hb dX11_leavesQueue_45 (by decide) ?_
  refine lv_aload_n hx hb dX11_leavesQueue_47 rfl (lv_at hl 2 rfl) ?_
  refine lv_iload_n hx hb dX11_leavesQueue_48 rfl (lv_at hl 3 rfl) ?_
  refine lv_bipush (v := 39) hx hb dX11_leavesQueue_49 (by decide) ?_
  refine ty_ki (wr := []) (wc := ([(rf_MO mo mw ma mf m0 m1 mu mv u0 u1 iz th mb mn mpt mbg mwr mwk mlf men), (rf_RW ct 0 mw 958 f1_38)] ++ ws_37)) (va_runV (As := [.int p1, .int 39]) (rest := [.int 39, .int p1, .ref mo]) ⟨hx, hb, hml, hown, hts⟩ (m_of_39 l D ct S ws_37 ph xx mo mw ma mf m0 m1 mu mv u0 u1 iz mb th mn mpt mbg mwr mwk mlf men f1_38 G cx p1 _ hT h_mu h_mv h_u0 h_u1 hph hy1 hR_43 hc) (cm_V 2 hts kc_X11_of ki_RX11 kl_RX11_209 kv_X11_of kx_X11_of kd_X11_of ⟨Nat.le_of_ble_eq_true rfl, Nat.le_of_ble_eq_true rfl⟩) (ty_preE (wr := []) (wc := ([(rf_MO mo mw ma mf m0 m1 mu mv u0 u1 iz th mb mn mpt mbg mwr mwk mlf men), (rf_RW ct 0 mw 958 f1_38)] ++ ws_37)) (ci := 11) (q0 := 0) hP hK hD hS hA hX rfl rfl) rfl rfl hl.1 rfl (lv_room (Nat.le_of_ble_eq_true rfl)) dX11_leavesQueue_51 ⟨Nat.le_of_ble_eq_true rfl, Nat.le_of_ble_eq_true rfl⟩) hP hD hS hA (fun r_46 u H locs hw_47 hP hD hS => ?_)
  obtain ⟨ws_48, rfl⟩ : ∃ z, z = u := ⟨_, rfl⟩
  obtain ⟨hT, rfl⟩ := hw_47
  have hP : va_P D vwCl ([(rf_MO mo mw ma mf m0 m1 mu mv u0 u1 iz th mb mn mpt mbg mwr mwk mlf men), (rf_RW ct 0 mw 958 f1_38)] ++ ws_48) H := hP
  have hD : va_D A ([(rf_MO mo mw ma mf m0 m1 mu mv u0 u1 iz th mb mn mpt mbg mwr mwk mlf men), (rf_RW ct 0 mw 958 f1_38)] ++ ws_48) := hD
  refine lv_iconst (v := 1) hx hb dX11_leavesQueue_54 (by decide) ?_
  refine lv_isub hx hb dX11_leavesQueue_55 ?_
  refine ty_kv (wr := []) (wc := ([(rf_MO mo mw ma mf m0 m1 mu mv u0 u1 iz th mb mn mpt mbg mwr mwk mlf men), (rf_RW ct 0 mw 958 f1_38)] ++ ws_48)) (va_runV (As := [.int p1, .int 39, .int ((rf_of f1_38 p1 39) - 1)]) (rest := []) ⟨hx, hb, hml, hown, hts⟩ (m_put_39 l D ct S ws_48 ph xx mo mw ma mf m0 m1 mu mv u0 u1 iz mb th mn mpt mbg mwr mwk mlf men f1_38 G cx p1 ((rf_of f1_38 p1 39) - 1) _ hT h_mu h_mv h_u0 h_u1 hph hy1 hR_43 hc (rf_q39 hR_43 hc (by rw [hq9_45]; exact hq))) (cm_V 3 hts kc_X11_put ki_RX11 kl_RX11_234 kv_X11_put kx_X11_put kd_X11_put ⟨Nat.le_of_ble_eq_true rfl, Nat.le_of_ble_eq_true rfl⟩) (ty_preE (wr := []) (wc := ([(rf_MO mo mw ma mf m0 m1 mu mv u0 u1 iz th mb mn mpt mbg mwr mwk mlf men), (rf_RW ct 0 mw 958 f1_38)] ++ ws_48)) (ci := 11) (q0 := 0) hP hK hD hS hA hX rfl rfl) rfl rfl hl.1 rfl (lv_room (Nat.le_of_ble_eq_true rfl)) dX11_leavesQueue_56 ⟨Nat.le_of_ble_eq_true rfl, Nat.le_of_ble_eq_true rfl⟩) hP hD hS hA (fun u H locs hw_50 hP hD hS => ?_)
  obtain ⟨ws_51, f1_52⟩ := u
  obtain ⟨hT, hp_53⟩ := hw_50
  have hp_53 : rf_d (f1_38 8) f1_38 f1_52 ∧ rf_R G cx f1_52 ∧ rf_sm f1_38 f1_52 ∧ f1_52 = upd f1_38 (244 + 54 * p1.toInt.toNat + 39) ((rf_of f1_38 p1 39) - 1) := hp_53
  obtain ⟨hd_54, hq_55⟩ := hp_53
  have hD_56 := rf_dt hD_42 hd_54
  have hR_57 := hq_55.1
  have hM_58 := rf_smt hM_44 hq_55.2.1
  have hP : va_P D vwCl ([(rf_MO mo mw ma mf m0 m1 mu mv u0 u1 iz th mb mn mpt mbg mwr mwk mlf men), (rf_RW ct 0 mw 958 f1_52)] ++ ws_51) H := hP
  have hD : va_D A ([(rf_MO mo mw ma mf m0 m1 mu mv u0 u1 iz th mb mn mpt mbg mwr mwk mlf men), (rf_RW ct 0 mw 958 f1_52)] ++ ws_51) := hD
  refine lv_iload_n hx hb dX11_leavesQueue_59 rfl (lv_at hl 1 rfl) ?_
  exact W.iret (v := (rf_of f p1 40)) hx hb hr (fun t ht hW => ⟨⟨(rf_of f p1 40), (ws_51, f1_52), rfl, ⟨hT, ⟨hD_56, hR_57, hM_58, (by have := rf_q40 hR hc; have := rf_qk hR hc; have := rf_np hR; omega)⟩⟩, by rw [ht]; exact hP, by rw [hAe]; exact hD⟩, hS.F ht⟩) hS.2.2 dX11_leavesQueue_60
theorem dX11_comes_0 : decode cX11_comes 0 = .ok (.aload_n 0, 1) := by decide +kernel
theorem dX11_comes_1 : decode cX11_comes 1 = .ok (.iload_n 1, 1) := by decide +kernel
theorem dX11_comes_2 : decode cX11_comes 2 = .ok (.iconst 1, 1) := by decide +kernel
theorem dX11_comes_3 : decode cX11_comes 3 = .ok (.invokevirtual 209, 3) := by decide +kernel
theorem dX11_comes_6 : decode cX11_comes 6 = .ok (.istore_n 3, 1) := by decide +kernel
theorem dX11_comes_7 : decode cX11_comes 7 = .ok (.iload_n 2, 1) := by decide +kernel
theorem dX11_comes_8 : decode cX11_comes 8 = .ok (.istore 4, 2) := by decide +kernel
theorem dX11_comes_10 : decode cX11_comes 10 = .ok (.iload 4, 2) := by decide +kernel
theorem dX11_comes_12 : decode cX11_comes 12 = .ok (.aload_n 0, 1) := by decide +kernel
theorem dX11_comes_13 : decode cX11_comes 13 = .ok (.iload_n 3, 1) := by decide +kernel
theorem dX11_comes_14 : decode cX11_comes 14 = .ok (.invokevirtual 276, 3) := by decide +kernel
theorem dX11_comes_17 : decode cX11_comes 17 = .ok (.if_icmp .ge 88, 3) := by decide +kernel
theorem dX11_comes_20 : decode cX11_comes 20 = .ok (.aload_n 0, 1) := by decide +kernel
theorem dX11_comes_21 : decode cX11_comes 21 = .ok (.iload_n 3, 1) := by decide +kernel
theorem dX11_comes_22 : decode cX11_comes 22 = .ok (.iload 4, 2) := by decide +kernel
theorem dX11_comes_24 : decode cX11_comes 24 = .ok (.iconst 0, 1) := by decide +kernel
theorem dX11_comes_25 : decode cX11_comes 25 = .ok (.invokevirtual 218, 3) := by decide +kernel
theorem dX11_comes_28 : decode cX11_comes 28 = .ok (.iconst 4, 1) := by decide +kernel
theorem dX11_comes_29 : decode cX11_comes 29 = .ok (.if_icmp .ne 76, 3) := by decide +kernel
theorem dX11_comes_105 : decode cX11_comes 105 = .ok (.iload 4, 2) := by decide +kernel
theorem dX11_comes_107 : decode cX11_comes 107 = .ok (.aload_n 0, 1) := by decide +kernel
theorem dX11_comes_108 : decode cX11_comes 108 = .ok (.iload_n 3, 1) := by decide +kernel
theorem dX11_comes_109 : decode cX11_comes 109 = .ok (.invokevirtual 276, 3) := by decide +kernel
theorem dX11_comes_112 : decode cX11_comes 112 = .ok (.if_icmp .ne 7, 3) := by decide +kernel
theorem dX11_comes_119 : decode cX11_comes 119 = .ok (.iconst 0, 1) := by decide +kernel
theorem dX11_comes_120 : decode cX11_comes 120 = .ok (.istore 5, 2) := by decide +kernel
theorem dX11_comes_122 : decode cX11_comes 122 = .ok (.aload_n 0, 1) := by decide +kernel
theorem dX11_comes_123 : decode cX11_comes 123 = .ok (.iload_n 1, 1) := by decide +kernel
theorem dX11_comes_124 : decode cX11_comes 124 = .ok (.iconst 2, 1) := by decide +kernel
theorem dX11_comes_125 : decode cX11_comes 125 = .ok (.iload 5, 2) := by decide +kernel
theorem dX11_comes_127 : decode cX11_comes 127 = .ok (.ifCond .eq 7, 3) := by decide +kernel
theorem dX11_comes_134 : decode cX11_comes 134 = .ok (.iload 4, 2) := by decide +kernel
theorem dX11_comes_136 : decode cX11_comes 136 = .ok (.invokevirtual 234, 3) := by decide +kernel
theorem dX11_comes_139 : decode cX11_comes 139 = .ok (.aload_n 0, 1) := by decide +kernel
theorem dX11_comes_140 : decode cX11_comes 140 = .ok (.iload_n 1, 1) := by decide +kernel
theorem dX11_comes_141 : decode cX11_comes 141 = .ok (.iconst 3, 1) := by decide +kernel
theorem dX11_comes_142 : decode cX11_comes 142 = .ok (.iconst 0, 1) := by decide +kernel
theorem dX11_comes_143 : decode cX11_comes 143 = .ok (.invokevirtual 234, 3) := by decide +kernel
theorem dX11_comes_146 : decode cX11_comes 146 = .ok (.aload_n 0, 1) := by decide +kernel
theorem dX11_comes_147 : decode cX11_comes 147 = .ok (.iload_n 1, 1) := by decide +kernel
theorem dX11_comes_148 : decode cX11_comes 148 = .ok (.bipush 6, 2) := by decide +kernel
theorem dX11_comes_150 : decode cX11_comes 150 = .ok (.aload_n 0, 1) := by decide +kernel
theorem dX11_comes_151 : decode cX11_comes 151 = .ok (.iload_n 1, 1) := by decide +kernel
theorem dX11_comes_152 : decode cX11_comes 152 = .ok (.iconst 1, 1) := by decide +kernel
theorem dX11_comes_153 : decode cX11_comes 153 = .ok (.invokevirtual 261, 3) := by decide +kernel
theorem dX11_comes_156 : decode cX11_comes 156 = .ok (.invokevirtual 265, 3) := by decide +kernel
theorem dX11_comes_159 : decode cX11_comes 159 = .ok (.iload 5, 2) := by decide +kernel
theorem dX11_comes_161 : decode cX11_comes 161 = .ok (.ifCond .eq 8, 3) := by decide +kernel
theorem dX11_comes_169 : decode cX11_comes 169 = .ok (.return_, 1) := by decide +kernel
set_option maxRecDepth 100000 in
set_option maxHeartbeats 4000000 in
theorem m_comes_0 (l : Launch) (D : va_G) (ct : Nat → ClassId) (S : ty_S) (ws : va_W) (ph : va_W → Prop) (xx : Nat → Nat → Nat → Prop) (mo : Nat) (mw : Nat) (ma : Nat) (mf : Nat) (m0 : Nat) (m1 : Nat) (mu : Nat) (mv : Nat) (u0 : Nat) (u1 : Nat) (iz : Nat) (mb : Nat) (th : Int32) (mn : Int32) (mpt : Int32) (mbg : Int32) (mwr : Int32) (mwk : Int32) (mlf : Int32) (men : Int32) (f : Nat → Int32) (G : Nat → Int32) (cx : Int) (p1 : Int32) (sz : Nat) (hT : ty_V ct S ph ws) (h_mu : S mu = some (.inr (1, 42))) (h_mv : S mv = some (.inr (1, 42))) (h_u0 : S u0 = some (.inr (1, 42))) (h_u1 : S u1 = some (.inr (1, 42))) (hph : ty_C ph xx) (hy1 : ty_y1 xx) (hy11 : ty_y0 xx 11) (hR : rf_R G cx f) (hc : 0 ≤ p1.toInt ∧ p1.toInt < (G 9).toInt) (hcx : cx = -1 ∨ cx = p1.toInt) (hp : 0 ≤ (rf_of f p1 1).toInt ∧ (rf_of f p1 1).toInt < (G 10).toInt) : Met l yX11_comes (ws_ yX11_comes cX11_comes 6 none) ({ frames := 1, cells := 0, slots := 0, locals := 24 } : Room) (va_Pc [.ref mo, .int p1, .int 0] (cmP D ct sz ([(rf_MO mo mw ma mf m0 m1 mu mv u0 u1 iz th mb mn mpt mbg mwr mwk mlf men), (rf_RW ct 0 mw 958 f)] ++ ws))) (va_Qv (fun (u : va_W × (Nat → Int32)) => match u with | (u9, f1) => ty_V ct S ph u9 ∧ rf_d (f 8) f f1 ∧ rf_R G (-1) f1) (cmB D ([(rf_MO mo mw ma mf m0 m1 mu mv u0 u1 iz th mb mn mpt mbg mwr mwk mlf men), (rf_RW ct 0 mw 958 f)] ++ ws) sz (fun (u : va_W × (Nat → Int32)) => match u with | (u9, f1) => ([(rf_MO mo mw ma mf m0 m1 mu mv u0 u1 iz th mb mn mpt mbg mwr mwk mlf men), (rf_RW ct 0 mw 958 f1)] ++ u9))) (va_A ([(rf_MO mo mw ma mf m0 m1 mu mv u0 u1 iz th mb mn mpt mbg mwr mwk mlf men), (rf_RW ct 0 mw 958 f)] ++ ws) sz)) 0 0 (va_A ([(rf_MO mo mw ma mf m0 m1 mu mv u0 u1 iz th mb mn mpt mbg mwr mwk mlf men), (rf_RW ct 0 mw 958 f)] ++ ws) sz) := by
  refine Met.ofW (cc := cX11_comes) (maxL := 6) (ret := none) (by decide) rfl ?_
  intro p e s m args below meth c s₁ B hml hv
  obtain ⟨rfl, hsz, hP, hK, hD0, hX⟩ := hv
  have hx := B.exec
  have hb := B.bytes
  have hr := B.returns
  have hts := ws_all (atoms_spec (ws := ws_ yX11_comes cX11_comes 6 none) B.pre)
  have hown : s.vm.findClass RX11 = some m.cls := findClass_of_methodNamed B.named
  have hlocks := B.notSynchronized
  subst hsz
  have hD := hD0.self (sz := s.heap.size)
  generalize hAe : va_A ([(rf_MO mo mw ma mf m0 m1 mu mv u0 u1 iz th mb mn mpt mbg mwr mwk mlf men), (rf_RW ct 0 mw 958 f)] ++ ws) s.heap.size = A at hD hX ⊢
  have hA : ∀ q : Nat, s.heap.size ≤ q → A q := fun q h => by rw [← hAe]; exact Or.inr h
  have hS : va_S A s.heap s.heap [] := va_S.rf
  have hl := lv_entry ([.ref mo, .int p1, .int 0]) (n := 6) (Nat.le_of_ble_eq_true rfl)
  rw [lg_entry_eq]
  generalize (lg_sl ([.ref mo, .int p1, .int 0]) ++ List.replicate (6 - (lg_sl ([.ref mo, .int p1, .int 0])).length) Slot.unset).toArray = ls at hl ⊢
  have hl : lv_has ls 6 [(0, .ref mo), (1, .int p1), (2, .int 0)] := hl
  refine lv_aload_n hx hb dX11_comes_0 rfl (lv_at hl 0 rfl) ?_
  refine lv_iload_n hx hb dX11_comes_1 rfl (lv_at hl 1 rfl) ?_
  refine lv_iconst (v := 1) hx hb dX11_comes_2 (by decide) ?_
  refine ty_ki (wr := []) (wc := ([(rf_MO mo mw ma mf m0 m1 mu mv u0 u1 iz th mb mn mpt mbg mwr mwk mlf men), (rf_RW ct 0 mw 958 f)] ++ ws)) (va_runV (As := [.int p1, .int 1]) (rest := []) ⟨hx, hb, hml, hown, hts⟩ (m_of_1 l D ct S ws ph xx mo mw ma mf m0 m1 mu mv u0 u1 iz mb th mn mpt mbg mwr mwk mlf men f G cx p1 _ hT h_mu h_mv h_u0 h_u1 hph hy1 hR hc) (cm_V 2 hts kc_X11_of ki_RX11 kl_RX11_209 kv_X11_of kx_X11_of kd_X11_of ⟨Nat.le_of_ble_eq_true rfl, Nat.le_of_ble_eq_true rfl⟩) (ty_preE (wr := []) (wc := ([(rf_MO mo mw ma mf m0 m1 mu mv u0 u1 iz th mb mn mpt mbg mwr mwk mlf men), (rf_RW ct 0 mw 958 f)] ++ ws)) (ci := 11) (q0 := 0) hP hK hD hS hA hX rfl rfl) rfl rfl hl.1 rfl (lv_room (Nat.le_of_ble_eq_true rfl)) dX11_comes_3 ⟨Nat.le_of_ble_eq_true rfl, Nat.le_of_ble_eq_true rfl⟩) hP hD hS hA (fun r_1 u H locs hw_2 hP hD hS => ?_)
  obtain ⟨ws_3, rfl⟩ : ∃ z, z = u := ⟨_, rfl⟩
  obtain ⟨hT, rfl⟩ := hw_2
  have hP : va_P D vwCl ([(rf_MO mo mw ma mf m0 m1 mu mv u0 u1 iz th mb mn mpt mbg mwr mwk mlf men), (rf_RW ct 0 mw 958 f)] ++ ws_3) H := hP
  have hD : va_D A ([(rf_MO mo mw ma mf m0 m1 mu mv u0 u1 iz th mb mn mpt mbg mwr mwk mlf men), (rf_RW ct 0 mw 958 f)] ++ ws_3) := hD
  refine lv_istore_n (lv' := [(3, .int (rf_of f p1 1)), (0, .ref mo), (1, .int p1), (2, .int 0)]) hx hb dX11_comes_6 rfl hl (by decide) rfl (fun ls hl => ?_)
  refine lv_iload_n hx hb dX11_comes_7 rfl (lv_at hl 3 rfl) ?_
  refine lv_istore (lv' := [(4, .int 0), (3, .int (rf_of f p1 1)), (0, .ref mo), (1, .int p1), (2, .int 0)]) hx hb dX11_comes_8 hl (by decide) rfl (fun ls hl => ?_)
  refine lv_iload hx hb dX11_comes_10 (lv_at hl 0 rfl) ?_
  refine lv_aload_n hx hb dX11_comes_12 rfl (lv_at hl 2 rfl) ?_
  refine lv_iload_n hx hb dX11_comes_13 rfl (lv_at hl 1 rfl) ?_
  refine ty_ki (wr := []) (wc := ([(rf_MO mo mw ma mf m0 m1 mu mv u0 u1 iz th mb mn mpt mbg mwr mwk mlf men), (rf_RW ct 0 mw 958 f)] ++ ws_3)) (va_runV (As := [.int (rf_of f p1 1)]) (rest := [.int 0]) ⟨hx, hb, hml, hown, hts⟩ (m_X11_stepsOf l D ct S ws_3 ph xx mo mw ma mf m0 m1 mu mv u0 u1 iz mb th mn mpt mbg mwr mwk mlf men f G cx (rf_of f p1 1) _ hT h_mu h_mv h_u0 h_u1 hph hy1 hR (rf_p4 hR hp)) (cm_V 1 hts kc_X11_stepsOf ki_RX11 kl_RX11_276 kv_X11_stepsOf kx_X11_stepsOf kd_X11_stepsOf ⟨Nat.le_of_ble_eq_true rfl, Nat.le_of_ble_eq_true rfl⟩) (ty_preE (wr := []) (wc := ([(rf_MO mo mw ma mf m0 m1 mu mv u0 u1 iz th mb mn mpt mbg mwr mwk mlf men), (rf_RW ct 0 mw 958 f)] ++ ws_3)) (ci := 11) (q0 := 0) hP hK hD hS hA hX rfl rfl) rfl rfl hl.1 rfl (lv_room (Nat.le_of_ble_eq_true rfl)) dX11_comes_14 ⟨Nat.le_of_ble_eq_true rfl, Nat.le_of_ble_eq_true rfl⟩) hP hD hS hA (fun r_4 u H locs hw_5 hP hD hS => ?_)
  obtain ⟨ws_6, rfl⟩ : ∃ z, z = u := ⟨_, rfl⟩
  obtain ⟨hT, rfl⟩ := hw_5
  have hP : va_P D vwCl ([(rf_MO mo mw ma mf m0 m1 mu mv u0 u1 iz th mb mn mpt mbg mwr mwk mlf men), (rf_RW ct 0 mw 958 f)] ++ ws_6) H := hP
  have hD : va_D A ([(rf_MO mo mw ma mf m0 m1 mu mv u0 u1 iz th mb mn mpt mbg mwr mwk mlf men), (rf_RW ct 0 mw 958 f)] ++ ws_6) := hD
  refine lv_icmp_ge (tgt := 105) hx hb dX11_comes_17 (by decide) (fun hc => absurd hc (rf_c01 hR hp)) (fun _ => ?_)
  refine lv_aload_n hx hb dX11_comes_20 rfl (lv_at hl 2 rfl) ?_
  refine lv_iload_n hx hb dX11_comes_21 rfl (lv_at hl 1 rfl) ?_
  refine lv_iload hx hb dX11_comes_22 (lv_at hl 0 rfl) ?_
  refine lv_iconst (v := 0) hx hb dX11_comes_24 (by decide) ?_
  refine ty_ki (wr := []) (wc := ([(rf_MO mo mw ma mf m0 m1 mu mv u0 u1 iz th mb mn mpt mbg mwr mwk mlf men), (rf_RW ct 0 mw 958 f)] ++ ws_6)) (va_runV (As := [.int (rf_of f p1 1), .int 0, .int 0]) (rest := []) ⟨hx, hb, hml, hown, hts⟩ (m_stepOf_0 l D ct S ws_6 ph xx mo mw ma mf m0 m1 mu mv u0 u1 iz mb th mn mpt mbg mwr mwk mlf men f G cx (rf_of f p1 1) (0 : Int32) _ hT h_mu h_mv h_u0 h_u1 hph hy1 hR (rf_p4 hR hp) (by decide)) (cm_V 3 hts kc_X11_stepOf ki_RX11 kl_RX11_218 kv_X11_stepOf kx_X11_stepOf kd_X11_stepOf ⟨Nat.le_of_ble_eq_true rfl, Nat.le_of_ble_eq_true rfl⟩) (ty_preE (wr := []) (wc := ([(rf_MO mo mw ma mf m0 m1 mu mv u0 u1 iz th mb mn mpt mbg mwr mwk mlf men), (rf_RW ct 0 mw 958 f)] ++ ws_6)) (ci := 11) (q0 := 0) hP hK hD hS hA hX rfl rfl) rfl rfl hl.1 rfl (lv_room (Nat.le_of_ble_eq_true rfl)) dX11_comes_25 ⟨Nat.le_of_ble_eq_true rfl, Nat.le_of_ble_eq_true rfl⟩) hP hD hS hA (fun r_7 u H locs hw_8 hP hD hS => ?_)
  obtain ⟨ws_9, rfl⟩ : ∃ z, z = u := ⟨_, rfl⟩
  obtain ⟨hT, rfl⟩ := hw_8
  have hP : va_P D vwCl ([(rf_MO mo mw ma mf m0 m1 mu mv u0 u1 iz th mb mn mpt mbg mwr mwk mlf men), (rf_RW ct 0 mw 958 f)] ++ ws_9) H := hP
  have hD : va_D A ([(rf_MO mo mw ma mf m0 m1 mu mv u0 u1 iz th mb mn mpt mbg mwr mwk mlf men), (rf_RW ct 0 mw 958 f)] ++ ws_9) := hD
  refine lv_iconst (v := 4) hx hb dX11_comes_28 (by decide) ?_
  refine lv_icmp_ne (tgt := 105) hx hb dX11_comes_29 (by decide) (fun _ => ?_) (fun hc => absurd hc (rf_c02 hR hp))
  refine lv_iload hx hb dX11_comes_105 (lv_at hl 0 rfl) ?_
  refine lv_aload_n hx hb dX11_comes_107 rfl (lv_at hl 2 rfl) ?_
  refine lv_iload_n hx hb dX11_comes_108 rfl (lv_at hl 1 rfl) ?_
  refine ty_ki (wr := []) (wc := ([(rf_MO mo mw ma mf m0 m1 mu mv u0 u1 iz th mb mn mpt mbg mwr mwk mlf men), (rf_RW ct 0 mw 958 f)] ++ ws_9)) (va_runV (As := [.int (rf_of f p1 1)]) (rest := [.int 0]) ⟨hx, hb, hml, hown, hts⟩ (m_X11_stepsOf l D ct S ws_9 ph xx mo mw ma mf m0 m1 mu mv u0 u1 iz mb th mn mpt mbg mwr mwk mlf men f G cx (rf_of f p1 1) _ hT h_mu h_mv h_u0 h_u1 hph hy1 hR (rf_p4 hR hp)) (cm_V 1 hts kc_X11_stepsOf ki_RX11 kl_RX11_276 kv_X11_stepsOf kx_X11_stepsOf kd_X11_stepsOf ⟨Nat.le_of_ble_eq_true rfl, Nat.le_of_ble_eq_true rfl⟩) (ty_preE (wr := []) (wc := ([(rf_MO mo mw ma mf m0 m1 mu mv u0 u1 iz th mb mn mpt mbg mwr mwk mlf men), (rf_RW ct 0 mw 958 f)] ++ ws_9)) (ci := 11) (q0 := 0) hP hK hD hS hA hX rfl rfl) rfl rfl hl.1 rfl (lv_room (Nat.le_of_ble_eq_true rfl)) dX11_comes_109 ⟨Nat.le_of_ble_eq_true rfl, Nat.le_of_ble_eq_true rfl⟩) hP hD hS hA (fun r_10 u H locs hw_11 hP hD hS => ?_)
  obtain ⟨ws_12, rfl⟩ : ∃ z, z = u := ⟨_, rfl⟩
  obtain ⟨hT, rfl⟩ := hw_11
  have hP : va_P D vwCl ([(rf_MO mo mw ma mf m0 m1 mu mv u0 u1 iz th mb mn mpt mbg mwr mwk mlf men), (rf_RW ct 0 mw 958 f)] ++ ws_12) H := hP
  have hD : va_D A ([(rf_MO mo mw ma mf m0 m1 mu mv u0 u1 iz th mb mn mpt mbg mwr mwk mlf men), (rf_RW ct 0 mw 958 f)] ++ ws_12) := hD
  refine lv_icmp_ne (tgt := 119) hx hb dX11_comes_112 (by decide) (fun _ => ?_) (fun hc => absurd hc (rf_c03 hR hp))
  refine lv_iconst (v := 0) hx hb dX11_comes_119 (by decide) ?_
  refine lv_istore (lv' := [(5, .int 0), (4, .int 0), (3, .int (rf_of f p1 1)), (0, .ref mo), (1, .int p1), (2, .int 0)]) hx hb dX11_comes_120 hl (by decide) rfl (fun ls hl => ?_)
  refine lv_aload_n hx hb dX11_comes_122 rfl (lv_at hl 3 rfl) ?_
  refine lv_iload_n hx hb dX11_comes_123 rfl (lv_at hl 4 rfl) ?_
  refine lv_iconst (v := 2) hx hb dX11_comes_124 (by decide) ?_
  refine lv_iload hx hb dX11_comes_125 (lv_at hl 0 rfl) ?_
  refine lv_if_eq (tgt := 134) hx hb dX11_comes_127 (by decide) (fun _ => ?_) (fun hc => absurd (by decide) hc)
  refine lv_iload hx hb dX11_comes_134 (lv_at hl 1 rfl) ?_
  refine ty_kv (wr := []) (wc := ([(rf_MO mo mw ma mf m0 m1 mu mv u0 u1 iz th mb mn mpt mbg mwr mwk mlf men), (rf_RW ct 0 mw 958 f)] ++ ws_12)) (va_runV (As := [.int p1, .int 2, .int 0]) (rest := []) ⟨hx, hb, hml, hown, hts⟩ (m_put_2 l D ct S ws_12 ph xx mo mw ma mf m0 m1 mu mv u0 u1 iz mb th mn mpt mbg mwr mwk mlf men f G cx p1 (0 : Int32) _ hT h_mu h_mv h_u0 h_u1 hph hy1 hR hc hcx (fun _ => (show -1 ≤ (0 : Int32).toInt ∧ (0 : Int32).toInt ≤ 11 from by decide))) (cm_V 3 hts kc_X11_put ki_RX11 kl_RX11_234 kv_X11_put kx_X11_put kd_X11_put ⟨Nat.le_of_ble_eq_true rfl, Nat.le_of_ble_eq_true rfl⟩) (ty_preE (wr := []) (wc := ([(rf_MO mo mw ma mf m0 m1 mu mv u0 u1 iz th mb mn mpt mbg mwr mwk mlf men), (rf_RW ct 0 mw 958 f)] ++ ws_12)) (ci := 11) (q0 := 0) hP hK hD hS hA hX rfl rfl) rfl rfl hl.1 rfl (lv_room (Nat.le_of_ble_eq_true rfl)) dX11_comes_136 ⟨Nat.le_of_ble_eq_true rfl, Nat.le_of_ble_eq_true rfl⟩) hP hD hS hA (fun u H locs hw_14 hP hD hS => ?_)
  obtain ⟨ws_15, f1_16⟩ := u
  obtain ⟨hT, hp_17⟩ := hw_14
  have hp_17 : rf_d (f 8) f f1_16 ∧ rf_R G p1.toInt f1_16 ∧ f1_16 = upd f (244 + 54 * p1.toInt.toNat + 2) (0 : Int32) := hp_17
  obtain ⟨hd_18, hq_19⟩ := hp_17
  have hD_20 := rf_dt (rf_dr f) hd_18
  have hR_21 := hq_19.1
  have hP : va_P D vwCl ([(rf_MO mo mw ma mf m0 m1 mu mv u0 u1 iz th mb mn mpt mbg mwr mwk mlf men), (rf_RW ct 0 mw 958 f1_16)] ++ ws_15) H := hP
  have hD : va_D A ([(rf_MO mo mw ma mf m0 m1 mu mv u0 u1 iz th mb mn mpt mbg mwr mwk mlf men), (rf_RW ct 0 mw 958 f1_16)] ++ ws_15) := hD
  refine lv_aload_n hx hb dX11_comes_139 rfl (lv_at hl 3 rfl) ?_
  refine lv_iload_n hx hb dX11_comes_140 rfl (lv_at hl 4 rfl) ?_
  refine lv_iconst (v := 3) hx hb dX11_comes_141 (by decide) ?_
  refine lv_iconst (v := 0) hx hb dX11_comes_142 (by decide) ?_
  refine ty_kv (wr := []) (wc := ([(rf_MO mo mw ma mf m0 m1 mu mv u0 u1 iz th mb mn mpt mbg mwr mwk mlf men), (rf_RW ct 0 mw 958 f1_16)] ++ ws_15)) (va_runV (As := [.int p1, .int 3, .int 0]) (rest := []) ⟨hx, hb, hml, hown, hts⟩ (m_put_3 l D ct S ws_15 ph xx mo mw ma mf m0 m1 mu mv u0 u1 iz mb th mn mpt mbg mwr mwk mlf men f1_16 G p1.toInt p1 (0 : Int32) _ hT h_mu h_mv h_u0 h_u1 hph hy1 hR_21 hc) (cm_V 3 hts kc_X11_put ki_RX11 kl_RX11_234 kv_X11_put kx_X11_put kd_X11_put ⟨Nat.le_of_ble_eq_true rfl, Nat.le_of_ble_eq_true rfl⟩) (ty_preE (wr := []) (wc := ([(rf_MO mo mw ma mf m0 m1 mu mv u0 u1 iz th mb mn mpt mbg mwr mwk mlf men), (rf_RW ct 0 mw 958 f1_16)] ++ ws_15)) (ci := 11) (q0 := 0) hP hK hD hS hA hX rfl rfl) rfl rfl hl.1 rfl (lv_room (Nat.le_of_ble_eq_true rfl)) dX11_comes_143 ⟨Nat.le_of_ble_eq_true rfl, Nat.le_of_ble_eq_true rfl⟩) hP hD hS hA (fun u H locs hw_24 hP hD hS => ?_)
  obtain ⟨ws_25, f1_26⟩ := u
  obtain ⟨hT, hp_27⟩ := hw_24
  have hp_27 : rf_d (f1_16 8) f1_16 f1_26 ∧ rf_R G p1.toInt f1_26 ∧ rf_sm f1_16 f1_26 ∧ f1_26 = upd f1_16 (244 + 54 * p1.toInt.toNat + 3) (0 : Int32) := hp_27
  obtain ⟨hd_28, hq_29⟩ := hp_27
  have hD_30 := rf_dt hD_20 hd_28
  have hR_31 := hq_29.1
  have hP : va_P D vwCl ([(rf_MO mo mw ma mf m0 m1 mu mv u0 u1 iz th mb mn mpt mbg mwr mwk mlf men), (rf_RW ct 0 mw 958 f1_26)] ++ ws_25) H := hP
  have hD : va_D A ([(rf_MO mo mw ma mf m0 m1 mu mv u0 u1 iz th mb mn mpt mbg mwr mwk mlf men), (rf_RW ct 0 mw 958 f1_26)] ++ ws_25) := hD
  refine lv_aload_n hx hb dX11_comes_146 rfl (lv_at hl 3 rfl) ?_
  refine lv_iload_n hx hb dX11_comes_147 rfl (lv_at hl 4 rfl) ?_
  refine lv_bipush (v := 6) hx hb dX11_comes_148 (by decide) ?_
  refine lv_aload_n hx hb dX11_comes_150 rfl (lv_at hl 3 rfl) ?_
  refine lv_iload_n hx hb dX11_comes_151 rfl (lv_at hl 4 rfl) ?_
  refine lv_iconst (v := 1) hx hb dX11_comes_152 (by decide) ?_
  have hP : va_P D vwCl ([(rf_RW ct 0 mw 958 f1_26), (rf_MO mo mw ma mf m0 m1 mu mv u0 u1 iz th mb mn mpt mbg mwr mwk mlf men)] ++ ws_25) H := ty_permP hP (ty_ordp (E := [(rf_MO mo mw ma mf m0 m1 mu mv u0 u1 iz th mb mn mpt mbg mwr mwk mlf men), (rf_RW ct 0 mw 958 f1_26)]) (E2 := [(rf_RW ct 0 mw 958 f1_26), (rf_MO mo mw ma mf m0 m1 mu mv u0 u1 iz th mb mn mpt mbg mwr mwk mlf men)]) (n := 2) [1, 0] rfl rfl (by decide))
  have hD : va_D A ([(rf_RW ct 0 mw 958 f1_26), (rf_MO mo mw ma mf m0 m1 mu mv u0 u1 iz th mb mn mpt mbg mwr mwk mlf men)] ++ ws_25) := ty_permD hD (ty_ordp (E := [(rf_MO mo mw ma mf m0 m1 mu mv u0 u1 iz th mb mn mpt mbg mwr mwk mlf men), (rf_RW ct 0 mw 958 f1_26)]) (E2 := [(rf_RW ct 0 mw 958 f1_26), (rf_MO mo mw ma mf m0 m1 mu mv u0 u1 iz th mb mn mpt mbg mwr mwk mlf men)]) (n := 2) [1, 0] rfl rfl (by decide))
  refine ty_kl (wr := [(rf_RW ct 0 mw 958 f1_26)]) (wc := ([(rf_MO mo mw ma mf m0 m1 mu mv u0 u1 iz th mb mn mpt mbg mwr mwk mlf men)] ++ ws_25)) (va_runV (As := [.int p1, .int 1]) (rest := [.int 6, .int p1, .ref mo]) ⟨hx, hb, hml, hown, hts⟩ (m_X11_sum l D ct S ws_25 ph xx mo mw ma mf m0 m1 mu mv u0 u1 iz mb th mn mpt mbg mwr mwk mlf men p1 (1 : Int32) _ hT h_mu h_mv h_u0 h_u1 hph hy1 (rf_c6 hR_31 hc) (by decide)) (cm_V 2 hts kc_X11_sum ki_RX11 kl_RX11_261 kv_X11_sum kx_X11_sum kd_X11_sum ⟨Nat.le_of_ble_eq_true rfl, Nat.le_of_ble_eq_true rfl⟩) (ty_preE (wr := [(rf_RW ct 0 mw 958 f1_26)]) (wc := ([(rf_MO mo mw ma mf m0 m1 mu mv u0 u1 iz th mb mn mpt mbg mwr mwk mlf men)] ++ ws_25)) (ci := 11) (q0 := 1) hP hK hD hS hA hX rfl rfl) rfl rfl hl.1 rfl (lv_room (Nat.le_of_ble_eq_true rfl)) dX11_comes_153 ⟨Nat.le_of_ble_eq_true rfl, Nat.le_of_ble_eq_true rfl⟩) hP hD hS hA (fun r_33 u H locs hw_34 hP hD hS => ?_)
  obtain ⟨ws_35, rfl⟩ : ∃ z, z = u := ⟨_, rfl⟩
  have hT := hw_34
  have hP : va_P D vwCl ([(rf_RW ct 0 mw 958 f1_26), (rf_MO mo mw ma mf m0 m1 mu mv u0 u1 iz th mb mn mpt mbg mwr mwk mlf men)] ++ ws_35) H := hP
  have hD : va_D A ([(rf_RW ct 0 mw 958 f1_26), (rf_MO mo mw ma mf m0 m1 mu mv u0 u1 iz th mb mn mpt mbg mwr mwk mlf men)] ++ ws_35) := hD
  refine ty_kv (wr := [(rf_RW ct 0 mw 958 f1_26)]) (wc := ([(rf_MO mo mw ma mf m0 m1 mu mv u0 u1 iz th mb mn mpt mbg mwr mwk mlf men)] ++ ws_35)) (va_runV (As := [.int p1, .int 6, .long r_33]) (rest := []) ⟨hx, hb, hml, hown, hts⟩ (m_X11_putSum l D ct S ws_35 ph xx mo mw ma mf m0 m1 mu mv u0 u1 iz mb th mn mpt mbg mwr mwk mlf men p1 (6 : Int32) r_33 _ hT h_mu h_mv h_u0 h_u1 hph hy1 hy11 (rf_c6 hR_31 hc) (by decide)) (cm_V 3 hts kc_X11_putSum ki_RX11 kl_RX11_265 kv_X11_putSum kx_X11_putSum kd_X11_putSum ⟨Nat.le_of_ble_eq_true rfl, Nat.le_of_ble_eq_true rfl⟩) (ty_preE (wr := [(rf_RW ct 0 mw 958 f1_26)]) (wc := ([(rf_MO mo mw ma mf m0 m1 mu mv u0 u1 iz th mb mn mpt mbg mwr mwk mlf men)] ++ ws_35)) (ci := 11) (q0 := 1) hP hK hD hS hA hX rfl rfl) rfl rfl hl.1 rfl (lv_room (Nat.le_of_ble_eq_true rfl)) dX11_comes_156 ⟨Nat.le_of_ble_eq_true rfl, Nat.le_of_ble_eq_true rfl⟩) hP hD hS hA (fun u H locs hw_37 hP hD hS => ?_)
  obtain ⟨ws_38, rfl⟩ : ∃ z, z = u := ⟨_, rfl⟩
  have hT := hw_37
  have hP : va_P D vwCl ([(rf_RW ct 0 mw 958 f1_26), (rf_MO mo mw ma mf m0 m1 mu mv u0 u1 iz th mb mn mpt mbg mwr mwk mlf men)] ++ ws_38) H := hP
  have hD : va_D A ([(rf_RW ct 0 mw 958 f1_26), (rf_MO mo mw ma mf m0 m1 mu mv u0 u1 iz th mb mn mpt mbg mwr mwk mlf men)] ++ ws_38) := hD
  refine lv_iload hx hb dX11_comes_159 (lv_at hl 0 rfl) ?_
  refine lv_if_eq (tgt := 169) hx hb dX11_comes_161 (by decide) (fun _ => ?_) (fun hc => absurd (by decide) hc)
  have e1 : rf_of f1_26 p1 1 = rf_of f p1 1 := by rw [hq_29.2.2, rf_ne (by decide), hq_19.2]; exact rf_ne (by decide)
  have e2 : rf_of f1_26 p1 2 = 0 := by rw [hq_29.2.2, rf_ne (by decide), hq_19.2]; exact rf_eq
  have hRf := rf_back9 hc.1 hR_31 (Or.inr rfl) (rf_runok hc.1 (by unfold rf_on; rw [e1, e2, ← (rf_psn hR hp).1]; exact ⟨hp, by decide, by have := rf_psn hR hp; have z : (0 : Int32).toInt = 0 := (by decide); omega⟩))
  have hP : va_P D vwCl ([(rf_MO mo mw ma mf m0 m1 mu mv u0 u1 iz th mb mn mpt mbg mwr mwk mlf men), (rf_RW ct 0 mw 958 f1_26)] ++ ws_38) H := ty_permP hP (ty_ordp (E := [(rf_RW ct 0 mw 958 f1_26), (rf_MO mo mw ma mf m0 m1 mu mv u0 u1 iz th mb mn mpt mbg mwr mwk mlf men)]) (E2 := [(rf_MO mo mw ma mf m0 m1 mu mv u0 u1 iz th mb mn mpt mbg mwr mwk mlf men), (rf_RW ct 0 mw 958 f1_26)]) (n := 2) [1, 0] rfl rfl (by decide))
  have hD : va_D A ([(rf_MO mo mw ma mf m0 m1 mu mv u0 u1 iz th mb mn mpt mbg mwr mwk mlf men), (rf_RW ct 0 mw 958 f1_26)] ++ ws_38) := ty_permD hD (ty_ordp (E := [(rf_RW ct 0 mw 958 f1_26), (rf_MO mo mw ma mf m0 m1 mu mv u0 u1 iz th mb mn mpt mbg mwr mwk mlf men)]) (E2 := [(rf_MO mo mw ma mf m0 m1 mu mv u0 u1 iz th mb mn mpt mbg mwr mwk mlf men), (rf_RW ct 0 mw 958 f1_26)]) (n := 2) [1, 0] rfl rfl (by decide))
  exact W.vret hx hb hr (fun t ht hW => ⟨⟨(ws_38, f1_26), rfl, ⟨hT, ⟨hD_30, hRf⟩⟩, by rw [ht]; exact hP, by rw [hAe]; exact hD⟩, hS.F ht⟩) hS.2.2 dX11_comes_169
theorem dX11_startsOn_0 : decode cX11_startsOn 0 = .ok (.aload_n 0, 1) := by decide +kernel
theorem dX11_startsOn_1 : decode cX11_startsOn 1 = .ok (.iload_n 1, 1) := by decide +kernel
theorem dX11_startsOn_2 : decode cX11_startsOn 2 = .ok (.iconst 0, 1) := by decide +kernel
theorem dX11_startsOn_3 : decode cX11_startsOn 3 = .ok (.iconst 1, 1) := by decide +kernel
theorem dX11_startsOn_4 : decode cX11_startsOn 4 = .ok (.invokevirtual 234, 3) := by decide +kernel
theorem dX11_startsOn_7 : decode cX11_startsOn 7 = .ok (.aload_n 0, 1) := by decide +kernel
theorem dX11_startsOn_8 : decode cX11_startsOn 8 = .ok (.iload_n 1, 1) := by decide +kernel
theorem dX11_startsOn_9 : decode cX11_startsOn 9 = .ok (.iconst 1, 1) := by decide +kernel
theorem dX11_startsOn_10 : decode cX11_startsOn 10 = .ok (.iload_n 2, 1) := by decide +kernel
theorem dX11_startsOn_11 : decode cX11_startsOn 11 = .ok (.invokevirtual 234, 3) := by decide +kernel
theorem dX11_startsOn_14 : decode cX11_startsOn 14 = .ok (.iconst 0, 1) := by decide +kernel
theorem dX11_startsOn_15 : decode cX11_startsOn 15 = .ok (.istore_n 3, 1) := by decide +kernel
theorem dX11_startsOn_16 : decode cX11_startsOn 16 = .ok (.iload_n 3, 1) := by decide +kernel
theorem dX11_startsOn_17 : decode cX11_startsOn 17 = .ok (.bipush 12, 2) := by decide +kernel
theorem dX11_startsOn_19 : decode cX11_startsOn 19 = .ok (.if_icmp .ge 19, 3) := by decide +kernel
theorem dX11_startsOn_22 : decode cX11_startsOn 22 = .ok (.aload_n 0, 1) := by decide +kernel
theorem dX11_startsOn_23 : decode cX11_startsOn 23 = .ok (.iload_n 1, 1) := by decide +kernel
theorem dX11_startsOn_24 : decode cX11_startsOn 24 = .ok (.bipush 24, 2) := by decide +kernel
theorem dX11_startsOn_26 : decode cX11_startsOn 26 = .ok (.iload_n 3, 1) := by decide +kernel
theorem dX11_startsOn_27 : decode cX11_startsOn 27 = .ok (.iadd, 1) := by decide +kernel
theorem dX11_startsOn_28 : decode cX11_startsOn 28 = .ok (.iconst 0, 1) := by decide +kernel
theorem dX11_startsOn_29 : decode cX11_startsOn 29 = .ok (.invokevirtual 234, 3) := by decide +kernel
theorem dX11_startsOn_32 : decode cX11_startsOn 32 = .ok (.iinc 3 1, 3) := by decide +kernel
theorem dX11_startsOn_35 : decode cX11_startsOn 35 = .ok (.goto (-19), 3) := by decide +kernel
theorem dX11_startsOn_38 : decode cX11_startsOn 38 = .ok (.aload_n 0, 1) := by decide +kernel
theorem dX11_startsOn_39 : decode cX11_startsOn 39 = .ok (.iload_n 1, 1) := by decide +kernel
theorem dX11_startsOn_40 : decode cX11_startsOn 40 = .ok (.invokevirtual 272, 3) := by decide +kernel
theorem dX11_startsOn_43 : decode cX11_startsOn 43 = .ok (.aload_n 0, 1) := by decide +kernel
theorem dX11_startsOn_44 : decode cX11_startsOn 44 = .ok (.iload_n 1, 1) := by decide +kernel
theorem dX11_startsOn_45 : decode cX11_startsOn 45 = .ok (.iconst 0, 1) := by decide +kernel
theorem dX11_startsOn_46 : decode cX11_startsOn 46 = .ok (.iload_n 2, 1) := by decide +kernel
theorem dX11_startsOn_47 : decode cX11_startsOn 47 = .ok (.invokevirtual 282, 3) := by decide +kernel
theorem dX11_startsOn_50 : decode cX11_startsOn 50 = .ok (.aload_n 0, 1) := by decide +kernel
theorem dX11_startsOn_51 : decode cX11_startsOn 51 = .ok (.iload_n 1, 1) := by decide +kernel
theorem dX11_startsOn_52 : decode cX11_startsOn 52 = .ok (.iconst 0, 1) := by decide +kernel
theorem dX11_startsOn_53 : decode cX11_startsOn 53 = .ok (.invokevirtual 291, 3) := by decide +kernel
theorem dX11_startsOn_56 : decode cX11_startsOn 56 = .ok (.return_, 1) := by decide +kernel
set_option maxRecDepth 100000 in
set_option maxHeartbeats 4000000 in
theorem m_X11_startsOn (l : Launch) (D : va_G) (ct : Nat → ClassId) (S : ty_S) (ws : va_W) (ph : va_W → Prop) (xx : Nat → Nat → Nat → Prop) (mo : Nat) (mw : Nat) (ma : Nat) (mf : Nat) (m0 : Nat) (m1 : Nat) (mu : Nat) (mv : Nat) (u0 : Nat) (u1 : Nat) (iz : Nat) (mb : Nat) (th : Int32) (mn : Int32) (mpt : Int32) (mbg : Int32) (mwr : Int32) (mwk : Int32) (mlf : Int32) (men : Int32) (f : Nat → Int32) (G : Nat → Int32) (cx : Int) (p1 : Int32) (p2 : Int32) (sz : Nat) (hT : ty_V ct S ph ws) (h_mu : S mu = some (.inr (1, 42))) (h_mv : S mv = some (.inr (1, 42))) (h_u0 : S u0 = some (.inr (1, 42))) (h_u1 : S u1 = some (.inr (1, 42))) (hph : ty_C ph xx) (hy1 : ty_y1 xx) (hy11 : ty_y0 xx 11) (hR : rf_R G cx f) (hc : 0 ≤ p1.toInt ∧ p1.toInt < (G 9).toInt) (hcx : cx = -1 ∨ cx = p1.toInt) (hpr : 0 ≤ p2.toInt ∧ p2.toInt < (G 10).toInt) : Met l yX11_startsOn (ws_ yX11_startsOn cX11_startsOn 4 none) ({ frames := 2, cells := 0, slots := 0, locals := 49 } : Room) (va_Pc [.ref mo, .int p1, .int p2] (cmP D ct sz ([(rf_MO mo mw ma mf m0 m1 mu mv u0 u1 iz th mb mn mpt mbg mwr mwk mlf men), (rf_RW ct 0 mw 958 f)] ++ ws))) (va_Qv (fun (u : va_W × (Nat → Int32)) => match u with | (u9, f1) => ty_V ct S ph u9 ∧ rf_d (f 8) f f1 ∧ rf_R G (-1) f1) (cmB D ([(rf_MO mo mw ma mf m0 m1 mu mv u0 u1 iz th mb mn mpt mbg mwr mwk mlf men), (rf_RW ct 0 mw 958 f)] ++ ws) sz (fun (u : va_W × (Nat → Int32)) => match u with | (u9, f1) => ([(rf_MO mo mw ma mf m0 m1 mu mv u0 u1 iz th mb mn mpt mbg mwr mwk mlf men), (rf_RW ct 0 mw 958 f1)] ++ u9))) (va_A ([(rf_MO mo mw ma mf m0 m1 mu mv u0 u1 iz th mb mn mpt mbg mwr mwk mlf men), (rf_RW ct 0 mw 958 f)] ++ ws) sz)) 0 0 (va_A ([(rf_MO mo mw ma mf m0 m1 mu mv u0 u1 iz th mb mn mpt mbg mwr mwk mlf men), (rf_RW ct 0 mw 958 f)] ++ ws) sz) := by
  refine Met.ofW (cc := cX11_startsOn) (maxL := 4) (ret := none) (by decide) rfl ?_
  intro p e s m args below meth c s₁ B hml hv
  obtain ⟨rfl, hsz, hP, hK, hD0, hX⟩ := hv
  have hx := B.exec
  have hb := B.bytes
  have hr := B.returns
  have hts := ws_all (atoms_spec (ws := ws_ yX11_startsOn cX11_startsOn 4 none) B.pre)
  have hown : s.vm.findClass RX11 = some m.cls := findClass_of_methodNamed B.named
  have hlocks := B.notSynchronized
  subst hsz
  have hD := hD0.self (sz := s.heap.size)
  generalize hAe : va_A ([(rf_MO mo mw ma mf m0 m1 mu mv u0 u1 iz th mb mn mpt mbg mwr mwk mlf men), (rf_RW ct 0 mw 958 f)] ++ ws) s.heap.size = A at hD hX ⊢
  have hA : ∀ q : Nat, s.heap.size ≤ q → A q := fun q h => by rw [← hAe]; exact Or.inr h
  have hS : va_S A s.heap s.heap [] := va_S.rf
  have hl := lv_entry ([.ref mo, .int p1, .int p2]) (n := 4) (Nat.le_of_ble_eq_true rfl)
  rw [lg_entry_eq]
  generalize (lg_sl ([.ref mo, .int p1, .int p2]) ++ List.replicate (4 - (lg_sl ([.ref mo, .int p1, .int p2])).length) Slot.unset).toArray = ls at hl ⊢
  have hl : lv_has ls 4 [(0, .ref mo), (1, .int p1), (2, .int p2)] := hl
  refine lv_aload_n hx hb dX11_startsOn_0 rfl (lv_at hl 0 rfl) ?_
  refine lv_iload_n hx hb dX11_startsOn_1 rfl (lv_at hl 1 rfl) ?_
  refine lv_iconst (v := 0) hx hb dX11_startsOn_2 (by decide) ?_
  refine lv_iconst (v := 1) hx hb dX11_startsOn_3 (by decide) ?_
  refine ty_kv (wr := []) (wc := ([(rf_MO mo mw ma mf m0 m1 mu mv u0 u1 iz th mb mn mpt mbg mwr mwk mlf men), (rf_RW ct 0 mw 958 f)] ++ ws)) (va_runV (As := [.int p1, .int 0, .int 1]) (rest := []) ⟨hx, hb, hml, hown, hts⟩ (m_put_0 l D ct S ws ph xx mo mw ma mf m0 m1 mu mv u0 u1 iz mb th mn mpt mbg mwr mwk mlf men f G cx p1 (1 : Int32) _ hT h_mu h_mv h_u0 h_u1 hph hy1 hR hc hcx) (cm_V 3 hts kc_X11_put ki_RX11 kl_RX11_234 kv_X11_put kx_X11_put kd_X11_put ⟨Nat.le_of_ble_eq_true rfl, Nat.le_of_ble_eq_true rfl⟩) (ty_preE (wr := []) (wc := ([(rf_MO mo mw ma mf m0 m1 mu mv u0 u1 iz th mb mn mpt mbg mwr mwk mlf men), (rf_RW ct 0 mw 958 f)] ++ ws)) (ci := 11) (q0 := 0) hP hK hD hS hA hX rfl rfl) rfl rfl hl.1 rfl (lv_room (Nat.le_of_ble_eq_true rfl)) dX11_startsOn_4 ⟨Nat.le_of_ble_eq_true rfl, Nat.le_of_ble_eq_true rfl⟩) hP hD hS hA (fun u H locs hw_2 hP hD hS => ?_)
  obtain ⟨ws_3, f1_4⟩ := u
  obtain ⟨hT, hp_5⟩ := hw_2
  have hp_5 : rf_d (f 8) f f1_4 ∧ rf_R G p1.toInt f1_4 ∧ f1_4 = upd f (244 + 54 * p1.toInt.toNat + 0) (1 : Int32) := hp_5
  obtain ⟨hd_6, hq_7⟩ := hp_5
  have hD_8 := rf_dt (rf_dr f) hd_6
  have hR_9 := hq_7.1
  have hP : va_P D vwCl ([(rf_MO mo mw ma mf m0 m1 mu mv u0 u1 iz th mb mn mpt mbg mwr mwk mlf men), (rf_RW ct 0 mw 958 f1_4)] ++ ws_3) H := hP
  have hD : va_D A ([(rf_MO mo mw ma mf m0 m1 mu mv u0 u1 iz th mb mn mpt mbg mwr mwk mlf men), (rf_RW ct 0 mw 958 f1_4)] ++ ws_3) := hD
  refine lv_aload_n hx hb dX11_startsOn_7 rfl (lv_at hl 0 rfl) ?_
  refine lv_iload_n hx hb dX11_startsOn_8 rfl (lv_at hl 1 rfl) ?_
  refine lv_iconst (v := 1) hx hb dX11_startsOn_9 (by decide) ?_
  refine lv_iload_n hx hb dX11_startsOn_10 rfl (lv_at hl 2 rfl) ?_
  refine ty_kv (wr := []) (wc := ([(rf_MO mo mw ma mf m0 m1 mu mv u0 u1 iz th mb mn mpt mbg mwr mwk mlf men), (rf_RW ct 0 mw 958 f1_4)] ++ ws_3)) (va_runV (As := [.int p1, .int 1, .int p2]) (rest := []) ⟨hx, hb, hml, hown, hts⟩ (m_put_1 l D ct S ws_3 ph xx mo mw ma mf m0 m1 mu mv u0 u1 iz mb th mn mpt mbg mwr mwk mlf men f1_4 G p1.toInt p1 p2 _ hT h_mu h_mv h_u0 h_u1 hph hy1 hR_9 hc (Or.inr rfl) (fun _ => (show -1 ≤ p2.toInt ∧ p2.toInt < (G 10).toInt from by omega))) (cm_V 3 hts kc_X11_put ki_RX11 kl_RX11_234 kv_X11_put kx_X11_put kd_X11_put ⟨Nat.le_of_ble_eq_true rfl, Nat.le_of_ble_eq_true rfl⟩) (ty_preE (wr := []) (wc := ([(rf_MO mo mw ma mf m0 m1 mu mv u0 u1 iz th mb mn mpt mbg mwr mwk mlf men), (rf_RW ct 0 mw 958 f1_4)] ++ ws_3)) (ci := 11) (q0 := 0) hP hK hD hS hA hX rfl rfl) rfl rfl hl.1 rfl (lv_room (Nat.le_of_ble_eq_true rfl)) dX11_startsOn_11 ⟨Nat.le_of_ble_eq_true rfl, Nat.le_of_ble_eq_true rfl⟩) hP hD hS hA (fun u H locs hw_12 hP hD hS => ?_)
  obtain ⟨ws_13, f1_14⟩ := u
  obtain ⟨hT, hp_15⟩ := hw_12
  have hp_15 : rf_d (f1_4 8) f1_4 f1_14 ∧ rf_R G p1.toInt f1_14 ∧ f1_14 = upd f1_4 (244 + 54 * p1.toInt.toNat + 1) p2 := hp_15
  obtain ⟨hd_16, hq_17⟩ := hp_15
  have hD_18 := rf_dt hD_8 hd_16
  have hR_19 := hq_17.1
  have hP : va_P D vwCl ([(rf_MO mo mw ma mf m0 m1 mu mv u0 u1 iz th mb mn mpt mbg mwr mwk mlf men), (rf_RW ct 0 mw 958 f1_14)] ++ ws_13) H := hP
  have hD : va_D A ([(rf_MO mo mw ma mf m0 m1 mu mv u0 u1 iz th mb mn mpt mbg mwr mwk mlf men), (rf_RW ct 0 mw 958 f1_14)] ++ ws_13) := hD
  have pg_21 : rf_of f1_14 p1 1 = p2 := by rw [hq_17.2]; exact rf_eq
  refine lv_iconst (v := 0) hx hb dX11_startsOn_14 (by decide) ?_
  refine lv_istore_n (lv' := [(3, .int 0), (0, .ref mo), (1, .int p1), (2, .int p2)]) hx hb dX11_startsOn_15 rfl hl (by decide) rfl (fun ls hl => ?_)
  refine lv_iload_n hx hb dX11_startsOn_16 rfl (lv_at hl 0 rfl) ?_
  refine lv_bipush (v := 12) hx hb dX11_startsOn_17 (by decide) ?_
  refine lv_icmp_ge (tgt := 38) hx hb dX11_startsOn_19 (by decide) (fun hc => absurd hc (by decide)) (fun _ => ?_)
  refine lv_aload_n hx hb dX11_startsOn_22 rfl (lv_at hl 1 rfl) ?_
  refine lv_iload_n hx hb dX11_startsOn_23 rfl (lv_at hl 2 rfl) ?_
  refine lv_bipush (v := 24) hx hb dX11_startsOn_24 (by decide) ?_
  refine lv_iload_n hx hb dX11_startsOn_26 rfl (lv_at hl 0 rfl) ?_
  refine lv_iadd hx hb dX11_startsOn_27 ?_
  refine cm_cst (y := 24) (by decide) ?_
  refine lv_iconst (v := 0) hx hb dX11_startsOn_28 (by decide) ?_
  refine ty_kv (wr := []) (wc := ([(rf_MO mo mw ma mf m0 m1 mu mv u0 u1 iz th mb mn mpt mbg mwr mwk mlf men), (rf_RW ct 0 mw 958 f1_14)] ++ ws_13)) (va_runV (As := [.int p1, .int 24, .int 0]) (rest := []) ⟨hx, hb, hml, hown, hts⟩ (m_put_24 l D ct S ws_13 ph xx mo mw ma mf m0 m1 mu mv u0 u1 iz mb th mn mpt mbg mwr mwk mlf men f1_14 G p1.toInt p1 (0 : Int32) _ hT h_mu h_mv h_u0 h_u1 hph hy1 hR_19 hc (fun _ => (show 0 ≤ (0 : Int32).toInt from by decide))) (cm_V 3 hts kc_X11_put ki_RX11 kl_RX11_234 kv_X11_put kx_X11_put kd_X11_put ⟨Nat.le_of_ble_eq_true rfl, Nat.le_of_ble_eq_true rfl⟩) (ty_preE (wr := []) (wc := ([(rf_MO mo mw ma mf m0 m1 mu mv u0 u1 iz th mb mn mpt mbg mwr mwk mlf men), (rf_RW ct 0 mw 958 f1_14)] ++ ws_13)) (ci := 11) (q0 := 0) hP hK hD hS hA hX rfl rfl) rfl rfl hl.1 rfl (lv_room (Nat.le_of_ble_eq_true rfl)) dX11_startsOn_29 ⟨Nat.le_of_ble_eq_true rfl, Nat.le_of_ble_eq_true rfl⟩) hP hD hS hA (fun u H locs hw_23 hP hD hS => ?_)
  obtain ⟨ws_24, f1_25⟩ := u
  obtain ⟨hT, hp_26⟩ := hw_23
  have hp_26 : rf_d (f1_14 8) f1_14 f1_25 ∧ rf_R G p1.toInt f1_25 ∧ rf_sm f1_14 f1_25 ∧ f1_25 = upd f1_14 (244 + 54 * p1.toInt.toNat + 24) (0 : Int32) := hp_26
  obtain ⟨hd_27, hq_28⟩ := hp_26
  have hD_29 := rf_dt hD_18 hd_27
  have hR_30 := hq_28.1
  have pg_32 := (rf_smof (rf_c6 hR_19 hc) hq_28.2.1 (k := 1) (by decide)).trans pg_21
  have hP : va_P D vwCl ([(rf_MO mo mw ma mf m0 m1 mu mv u0 u1 iz th mb mn mpt mbg mwr mwk mlf men), (rf_RW ct 0 mw 958 f1_25)] ++ ws_24) H := hP
  have hD : va_D A ([(rf_MO mo mw ma mf m0 m1 mu mv u0 u1 iz th mb mn mpt mbg mwr mwk mlf men), (rf_RW ct 0 mw 958 f1_25)] ++ ws_24) := hD
  refine lv_iinc (v := 1) (lv' := [(3, .int 1), (0, .ref mo), (1, .int p1), (2, .int p2)]) hx hb dX11_startsOn_32 hl (k := 0) rfl (by decide) (by decide) rfl (fun ls hl => ?_)
  refine lv_goto (tgt := 16) hx hb dX11_startsOn_35 (by decide) ?_
  refine lv_iload_n hx hb dX11_startsOn_16 rfl (lv_at hl 0 rfl) ?_
  refine lv_bipush (v := 12) hx hb dX11_startsOn_17 (by decide) ?_
  refine lv_icmp_ge (tgt := 38) hx hb dX11_startsOn_19 (by decide) (fun hc => absurd hc (by decide)) (fun _ => ?_)
  refine lv_aload_n hx hb dX11_startsOn_22 rfl (lv_at hl 1 rfl) ?_
  refine lv_iload_n hx hb dX11_startsOn_23 rfl (lv_at hl 2 rfl) ?_
  refine lv_bipush (v := 24) hx hb dX11_startsOn_24 (by decide) ?_
  refine lv_iload_n hx hb dX11_startsOn_26 rfl (lv_at hl 0 rfl) ?_
  refine lv_iadd hx hb dX11_startsOn_27 ?_
  refine cm_cst (y := 25) (by decide) ?_
  refine lv_iconst (v := 0) hx hb dX11_startsOn_28 (by decide) ?_
  refine ty_kv (wr := []) (wc := ([(rf_MO mo mw ma mf m0 m1 mu mv u0 u1 iz th mb mn mpt mbg mwr mwk mlf men), (rf_RW ct 0 mw 958 f1_25)] ++ ws_24)) (va_runV (As := [.int p1, .int 25, .int 0]) (rest := []) ⟨hx, hb, hml, hown, hts⟩ (m_put_25 l D ct S ws_24 ph xx mo mw ma mf m0 m1 mu mv u0 u1 iz mb th mn mpt mbg mwr mwk mlf men f1_25 G p1.toInt p1 (0 : Int32) _ hT h_mu h_mv h_u0 h_u1 hph hy1 hR_30 hc (fun _ => (show 0 ≤ (0 : Int32).toInt from by decide))) (cm_V 3 hts kc_X11_put ki_RX11 kl_RX11_234 kv_X11_put kx_X11_put kd_X11_put ⟨Nat.le_of_ble_eq_true rfl, Nat.le_of_ble_eq_true rfl⟩) (ty_preE (wr := []) (wc := ([(rf_MO mo mw ma mf m0 m1 mu mv u0 u1 iz th mb mn mpt mbg mwr mwk mlf men), (rf_RW ct 0 mw 958 f1_25)] ++ ws_24)) (ci := 11) (q0 := 0) hP hK hD hS hA hX rfl rfl) rfl rfl hl.1 rfl (lv_room (Nat.le_of_ble_eq_true rfl)) dX11_startsOn_29 ⟨Nat.le_of_ble_eq_true rfl, Nat.le_of_ble_eq_true rfl⟩) hP hD hS hA (fun u H locs hw_34 hP hD hS => ?_)
  obtain ⟨ws_35, f1_36⟩ := u
  obtain ⟨hT, hp_37⟩ := hw_34
  have hp_37 : rf_d (f1_25 8) f1_25 f1_36 ∧ rf_R G p1.toInt f1_36 ∧ rf_sm f1_25 f1_36 ∧ f1_36 = upd f1_25 (244 + 54 * p1.toInt.toNat + 25) (0 : Int32) := hp_37
  obtain ⟨hd_38, hq_39⟩ := hp_37
  have hD_40 := rf_dt hD_29 hd_38
  have hR_41 := hq_39.1
  have pg_43 := (rf_smof (rf_c6 hR_30 hc) hq_39.2.1 (k := 1) (by decide)).trans pg_32
  have hP : va_P D vwCl ([(rf_MO mo mw ma mf m0 m1 mu mv u0 u1 iz th mb mn mpt mbg mwr mwk mlf men), (rf_RW ct 0 mw 958 f1_36)] ++ ws_35) H := hP
  have hD : va_D A ([(rf_MO mo mw ma mf m0 m1 mu mv u0 u1 iz th mb mn mpt mbg mwr mwk mlf men), (rf_RW ct 0 mw 958 f1_36)] ++ ws_35) := hD
  refine lv_iinc (v := 2) (lv' := [(3, .int 2), (0, .ref mo), (1, .int p1), (2, .int p2)]) hx hb dX11_startsOn_32 hl (k := 0) rfl (by decide) (by decide) rfl (fun ls hl => ?_)
  refine lv_goto (tgt := 16) hx hb dX11_startsOn_35 (by decide) ?_
  refine lv_iload_n hx hb dX11_startsOn_16 rfl (lv_at hl 0 rfl) ?_
  refine lv_bipush (v := 12) hx hb dX11_startsOn_17 (by decide) ?_
  refine lv_icmp_ge (tgt := 38) hx hb dX11_startsOn_19 (by decide) (fun hc => absurd hc (by decide)) (fun _ => ?_)
  refine lv_aload_n hx hb dX11_startsOn_22 rfl (lv_at hl 1 rfl) ?_
  refine lv_iload_n hx hb dX11_startsOn_23 rfl (lv_at hl 2 rfl) ?_
  refine lv_bipush (v := 24) hx hb dX11_startsOn_24 (by decide) ?_
  refine lv_iload_n hx hb dX11_startsOn_26 rfl (lv_at hl 0 rfl) ?_
  refine lv_iadd hx hb dX11_startsOn_27 ?_
  refine cm_cst (y := 26) (by decide) ?_
  refine lv_iconst (v := 0) hx hb dX11_startsOn_28 (by decide) ?_
  refine ty_kv (wr := []) (wc := ([(rf_MO mo mw ma mf m0 m1 mu mv u0 u1 iz th mb mn mpt mbg mwr mwk mlf men), (rf_RW ct 0 mw 958 f1_36)] ++ ws_35)) (va_runV (As := [.int p1, .int 26, .int 0]) (rest := []) ⟨hx, hb, hml, hown, hts⟩ (m_put_26 l D ct S ws_35 ph xx mo mw ma mf m0 m1 mu mv u0 u1 iz mb th mn mpt mbg mwr mwk mlf men f1_36 G p1.toInt p1 (0 : Int32) _ hT h_mu h_mv h_u0 h_u1 hph hy1 hR_41 hc (fun _ => (show 0 ≤ (0 : Int32).toInt from by decide))) (cm_V 3 hts kc_X11_put ki_RX11 kl_RX11_234 kv_X11_put kx_X11_put kd_X11_put ⟨Nat.le_of_ble_eq_true rfl, Nat.le_of_ble_eq_true rfl⟩) (ty_preE (wr := []) (wc := ([(rf_MO mo mw ma mf m0 m1 mu mv u0 u1 iz th mb mn mpt mbg mwr mwk mlf men), (rf_RW ct 0 mw 958 f1_36)] ++ ws_35)) (ci := 11) (q0 := 0) hP hK hD hS hA hX rfl rfl) rfl rfl hl.1 rfl (lv_room (Nat.le_of_ble_eq_true rfl)) dX11_startsOn_29 ⟨Nat.le_of_ble_eq_true rfl, Nat.le_of_ble_eq_true rfl⟩) hP hD hS hA (fun u H locs hw_45 hP hD hS => ?_)
  obtain ⟨ws_46, f1_47⟩ := u
  obtain ⟨hT, hp_48⟩ := hw_45
  have hp_48 : rf_d (f1_36 8) f1_36 f1_47 ∧ rf_R G p1.toInt f1_47 ∧ rf_sm f1_36 f1_47 ∧ f1_47 = upd f1_36 (244 + 54 * p1.toInt.toNat + 26) (0 : Int32) := hp_48
  obtain ⟨hd_49, hq_50⟩ := hp_48
  have hD_51 := rf_dt hD_40 hd_49
  have hR_52 := hq_50.1
  have pg_54 := (rf_smof (rf_c6 hR_41 hc) hq_50.2.1 (k := 1) (by decide)).trans pg_43
  have hP : va_P D vwCl ([(rf_MO mo mw ma mf m0 m1 mu mv u0 u1 iz th mb mn mpt mbg mwr mwk mlf men), (rf_RW ct 0 mw 958 f1_47)] ++ ws_46) H := hP
  have hD : va_D A ([(rf_MO mo mw ma mf m0 m1 mu mv u0 u1 iz th mb mn mpt mbg mwr mwk mlf men), (rf_RW ct 0 mw 958 f1_47)] ++ ws_46) := hD
  refine lv_iinc (v := 3) (lv' := [(3, .int 3), (0, .ref mo), (1, .int p1), (2, .int p2)]) hx hb dX11_startsOn_32 hl (k := 0) rfl (by decide) (by decide) rfl (fun ls hl => ?_)
  refine lv_goto (tgt := 16) hx hb dX11_startsOn_35 (by decide) ?_
  refine lv_iload_n hx hb dX11_startsOn_16 rfl (lv_at hl 0 rfl) ?_
  refine lv_bipush (v := 12) hx hb dX11_startsOn_17 (by decide) ?_
  refine lv_icmp_ge (tgt := 38) hx hb dX11_startsOn_19 (by decide) (fun hc => absurd hc (by decide)) (fun _ => ?_)
  refine lv_aload_n hx hb dX11_startsOn_22 rfl (lv_at hl 1 rfl) ?_
  refine lv_iload_n hx hb dX11_startsOn_23 rfl (lv_at hl 2 rfl) ?_
  refine lv_bipush (v := 24) hx hb dX11_startsOn_24 (by decide) ?_
  refine lv_iload_n hx hb dX11_startsOn_26 rfl (lv_at hl 0 rfl) ?_
  refine lv_iadd hx hb dX11_startsOn_27 ?_
  refine cm_cst (y := 27) (by decide) ?_
  refine lv_iconst (v := 0) hx hb dX11_startsOn_28 (by decide) ?_
  refine ty_kv (wr := []) (wc := ([(rf_MO mo mw ma mf m0 m1 mu mv u0 u1 iz th mb mn mpt mbg mwr mwk mlf men), (rf_RW ct 0 mw 958 f1_47)] ++ ws_46)) (va_runV (As := [.int p1, .int 27, .int 0]) (rest := []) ⟨hx, hb, hml, hown, hts⟩ (m_put_27 l D ct S ws_46 ph xx mo mw ma mf m0 m1 mu mv u0 u1 iz mb th mn mpt mbg mwr mwk mlf men f1_47 G p1.toInt p1 (0 : Int32) _ hT h_mu h_mv h_u0 h_u1 hph hy1 hR_52 hc (fun _ => (show 0 ≤ (0 : Int32).toInt from by decide))) (cm_V 3 hts kc_X11_put ki_RX11 kl_RX11_234 kv_X11_put kx_X11_put kd_X11_put ⟨Nat.le_of_ble_eq_true rfl, Nat.le_of_ble_eq_true rfl⟩) (ty_preE (wr := []) (wc := ([(rf_MO mo mw ma mf m0 m1 mu mv u0 u1 iz th mb mn mpt mbg mwr mwk mlf men), (rf_RW ct 0 mw 958 f1_47)] ++ ws_46)) (ci := 11) (q0 := 0) hP hK hD hS hA hX rfl rfl) rfl rfl hl.1 rfl (lv_room (Nat.le_of_ble_eq_true rfl)) dX11_startsOn_29 ⟨Nat.le_of_ble_eq_true rfl, Nat.le_of_ble_eq_true rfl⟩) hP hD hS hA (fun u H locs hw_56 hP hD hS => ?_)
  obtain ⟨ws_57, f1_58⟩ := u
  obtain ⟨hT, hp_59⟩ := hw_56
  have hp_59 : rf_d (f1_47 8) f1_47 f1_58 ∧ rf_R G p1.toInt f1_58 ∧ rf_sm f1_47 f1_58 ∧ f1_58 = upd f1_47 (244 + 54 * p1.toInt.toNat + 27) (0 : Int32) := hp_59
  obtain ⟨hd_60, hq_61⟩ := hp_59
  have hD_62 := rf_dt hD_51 hd_60
  have hR_63 := hq_61.1
  have pg_65 := (rf_smof (rf_c6 hR_52 hc) hq_61.2.1 (k := 1) (by decide)).trans pg_54
  have hP : va_P D vwCl ([(rf_MO mo mw ma mf m0 m1 mu mv u0 u1 iz th mb mn mpt mbg mwr mwk mlf men), (rf_RW ct 0 mw 958 f1_58)] ++ ws_57) H := hP
  have hD : va_D A ([(rf_MO mo mw ma mf m0 m1 mu mv u0 u1 iz th mb mn mpt mbg mwr mwk mlf men), (rf_RW ct 0 mw 958 f1_58)] ++ ws_57) := hD
  refine lv_iinc (v := 4) (lv' := [(3, .int 4), (0, .ref mo), (1, .int p1), (2, .int p2)]) hx hb dX11_startsOn_32 hl (k := 0) rfl (by decide) (by decide) rfl (fun ls hl => ?_)
  refine lv_goto (tgt := 16) hx hb dX11_startsOn_35 (by decide) ?_
  refine lv_iload_n hx hb dX11_startsOn_16 rfl (lv_at hl 0 rfl) ?_
  refine lv_bipush (v := 12) hx hb dX11_startsOn_17 (by decide) ?_
  refine lv_icmp_ge (tgt := 38) hx hb dX11_startsOn_19 (by decide) (fun hc => absurd hc (by decide)) (fun _ => ?_)
  refine lv_aload_n hx hb dX11_startsOn_22 rfl (lv_at hl 1 rfl) ?_
  refine lv_iload_n hx hb dX11_startsOn_23 rfl (lv_at hl 2 rfl) ?_
  refine lv_bipush (v := 24) hx hb dX11_startsOn_24 (by decide) ?_
  refine lv_iload_n hx hb dX11_startsOn_26 rfl (lv_at hl 0 rfl) ?_
  refine lv_iadd hx hb dX11_startsOn_27 ?_
  refine cm_cst (y := 28) (by decide) ?_
  refine lv_iconst (v := 0) hx hb dX11_startsOn_28 (by decide) ?_
  refine ty_kv (wr := []) (wc := ([(rf_MO mo mw ma mf m0 m1 mu mv u0 u1 iz th mb mn mpt mbg mwr mwk mlf men), (rf_RW ct 0 mw 958 f1_58)] ++ ws_57)) (va_runV (As := [.int p1, .int 28, .int 0]) (rest := []) ⟨hx, hb, hml, hown, hts⟩ (m_put_28 l D ct S ws_57 ph xx mo mw ma mf m0 m1 mu mv u0 u1 iz mb th mn mpt mbg mwr mwk mlf men f1_58 G p1.toInt p1 (0 : Int32) _ hT h_mu h_mv h_u0 h_u1 hph hy1 hR_63 hc (fun _ => (show 0 ≤ (0 : Int32).toInt from by decide))) (cm_V 3 hts kc_X11_put ki_RX11 kl_RX11_234 kv_X11_put kx_X11_put kd_X11_put ⟨Nat.le_of_ble_eq_true rfl, Nat.le_of_ble_eq_true rfl⟩) (ty_preE (wr := []) (wc := ([(rf_MO mo mw ma mf m0 m1 mu mv u0 u1 iz th mb mn mpt mbg mwr mwk mlf men), (rf_RW ct 0 mw 958 f1_58)] ++ ws_57)) (ci := 11) (q0 := 0) hP hK hD hS hA hX rfl rfl) rfl rfl hl.1 rfl (lv_room (Nat.le_of_ble_eq_true rfl)) dX11_startsOn_29 ⟨Nat.le_of_ble_eq_true rfl, Nat.le_of_ble_eq_true rfl⟩) hP hD hS hA (fun u H locs hw_67 hP hD hS => ?_)
  obtain ⟨ws_68, f1_69⟩ := u
  obtain ⟨hT, hp_70⟩ := hw_67
  have hp_70 : rf_d (f1_58 8) f1_58 f1_69 ∧ rf_R G p1.toInt f1_69 ∧ rf_sm f1_58 f1_69 ∧ f1_69 = upd f1_58 (244 + 54 * p1.toInt.toNat + 28) (0 : Int32) := hp_70
  obtain ⟨hd_71, hq_72⟩ := hp_70
  have hD_73 := rf_dt hD_62 hd_71
  have hR_74 := hq_72.1
  have pg_76 := (rf_smof (rf_c6 hR_63 hc) hq_72.2.1 (k := 1) (by decide)).trans pg_65
  have hP : va_P D vwCl ([(rf_MO mo mw ma mf m0 m1 mu mv u0 u1 iz th mb mn mpt mbg mwr mwk mlf men), (rf_RW ct 0 mw 958 f1_69)] ++ ws_68) H := hP
  have hD : va_D A ([(rf_MO mo mw ma mf m0 m1 mu mv u0 u1 iz th mb mn mpt mbg mwr mwk mlf men), (rf_RW ct 0 mw 958 f1_69)] ++ ws_68) := hD
  refine lv_iinc (v := 5) (lv' := [(3, .int 5), (0, .ref mo), (1, .int p1), (2, .int p2)]) hx hb dX11_startsOn_32 hl (k := 0) rfl (by decide) (by decide) rfl (fun ls hl => ?_)
  refine lv_goto (tgt := 16) hx hb dX11_startsOn_35 (by decide) ?_
  refine lv_iload_n hx hb dX11_startsOn_16 rfl (lv_at hl 0 rfl) ?_
  refine lv_bipush (v := 12) hx hb dX11_startsOn_17 (by decide) ?_
  refine lv_icmp_ge (tgt := 38) hx hb dX11_startsOn_19 (by decide) (fun hc => absurd hc (by decide)) (fun _ => ?_)
  refine lv_aload_n hx hb dX11_startsOn_22 rfl (lv_at hl 1 rfl) ?_
  refine lv_iload_n hx hb dX11_startsOn_23 rfl (lv_at hl 2 rfl) ?_
  refine lv_bipush (v := 24) hx hb dX11_startsOn_24 (by decide) ?_
  refine lv_iload_n hx hb dX11_startsOn_26 rfl (lv_at hl 0 rfl) ?_
  refine lv_iadd hx hb dX11_startsOn_27 ?_
  refine cm_cst (y := 29) (by decide) ?_
  refine lv_iconst (v := 0) hx hb dX11_startsOn_28 (by decide) ?_
  refine ty_kv (wr := []) (wc := ([(rf_MO mo mw ma mf m0 m1 mu mv u0 u1 iz th mb mn mpt mbg mwr mwk mlf men), (rf_RW ct 0 mw 958 f1_69)] ++ ws_68)) (va_runV (As := [.int p1, .int 29, .int 0]) (rest := []) ⟨hx, hb, hml, hown, hts⟩ (m_put_29 l D ct S ws_68 ph xx mo mw ma mf m0 m1 mu mv u0 u1 iz mb th mn mpt mbg mwr mwk mlf men f1_69 G p1.toInt p1 (0 : Int32) _ hT h_mu h_mv h_u0 h_u1 hph hy1 hR_74 hc (fun _ => (show 0 ≤ (0 : Int32).toInt from by decide))) (cm_V 3 hts kc_X11_put ki_RX11 kl_RX11_234 kv_X11_put kx_X11_put kd_X11_put ⟨Nat.le_of_ble_eq_true rfl, Nat.le_of_ble_eq_true rfl⟩) (ty_preE (wr := []) (wc := ([(rf_MO mo mw ma mf m0 m1 mu mv u0 u1 iz th mb mn mpt mbg mwr mwk mlf men), (rf_RW ct 0 mw 958 f1_69)] ++ ws_68)) (ci := 11) (q0 := 0) hP hK hD hS hA hX rfl rfl) rfl rfl hl.1 rfl (lv_room (Nat.le_of_ble_eq_true rfl)) dX11_startsOn_29 ⟨Nat.le_of_ble_eq_true rfl, Nat.le_of_ble_eq_true rfl⟩) hP hD hS hA (fun u H locs hw_78 hP hD hS => ?_)
  obtain ⟨ws_79, f1_80⟩ := u
  obtain ⟨hT, hp_81⟩ := hw_78
  have hp_81 : rf_d (f1_69 8) f1_69 f1_80 ∧ rf_R G p1.toInt f1_80 ∧ rf_sm f1_69 f1_80 ∧ f1_80 = upd f1_69 (244 + 54 * p1.toInt.toNat + 29) (0 : Int32) := hp_81
  obtain ⟨hd_82, hq_83⟩ := hp_81
  have hD_84 := rf_dt hD_73 hd_82
  have hR_85 := hq_83.1
  have pg_87 := (rf_smof (rf_c6 hR_74 hc) hq_83.2.1 (k := 1) (by decide)).trans pg_76
  have hP : va_P D vwCl ([(rf_MO mo mw ma mf m0 m1 mu mv u0 u1 iz th mb mn mpt mbg mwr mwk mlf men), (rf_RW ct 0 mw 958 f1_80)] ++ ws_79) H := hP
  have hD : va_D A ([(rf_MO mo mw ma mf m0 m1 mu mv u0 u1 iz th mb mn mpt mbg mwr mwk mlf men), (rf_RW ct 0 mw 958 f1_80)] ++ ws_79) := hD
  refine lv_iinc (v := 6) (lv' := [(3, .int 6), (0, .ref mo), (1, .int p1), (2, .int p2)]) hx hb dX11_startsOn_32 hl (k := 0) rfl (by decide) (by decide) rfl (fun ls hl => ?_)
  refine lv_goto (tgt := 16) hx hb dX11_startsOn_35 (by decide) ?_
  refine lv_iload_n hx hb dX11_startsOn_16 rfl (lv_at hl 0 rfl) ?_
  refine lv_bipush (v := 12) hx hb dX11_startsOn_17 (by decide) ?_
  refine lv_icmp_ge (tgt := 38) hx hb dX11_startsOn_19 (by decide) (fun hc => absurd hc (by decide)) (fun _ => ?_)
  refine lv_aload_n hx hb dX11_startsOn_22 rfl (lv_at hl 1 rfl) ?_
  refine lv_iload_n hx hb dX11_startsOn_23 rfl (lv_at hl 2 rfl) ?_
  refine lv_bipush (v := 24) hx hb dX11_startsOn_24 (by decide) ?_
  refine lv_iload_n hx hb dX11_startsOn_26 rfl (lv_at hl 0 rfl) ?_
  refine lv_iadd hx hb dX11_startsOn_27 ?_
  refine cm_cst (y := 30) (by decide) ?_
  refine lv_iconst (v := 0) hx hb dX11_startsOn_28 (by decide) ?_
  refine ty_kv (wr := []) (wc := ([(rf_MO mo mw ma mf m0 m1 mu mv u0 u1 iz th mb mn mpt mbg mwr mwk mlf men), (rf_RW ct 0 mw 958 f1_80)] ++ ws_79)) (va_runV (As := [.int p1, .int 30, .int 0]) (rest := []) ⟨hx, hb, hml, hown, hts⟩ (m_put_30 l D ct S ws_79 ph xx mo mw ma mf m0 m1 mu mv u0 u1 iz mb th mn mpt mbg mwr mwk mlf men f1_80 G p1.toInt p1 (0 : Int32) _ hT h_mu h_mv h_u0 h_u1 hph hy1 hR_85 hc (fun _ => (show 0 ≤ (0 : Int32).toInt from by decide))) (cm_V 3 hts kc_X11_put ki_RX11 kl_RX11_234 kv_X11_put kx_X11_put kd_X11_put ⟨Nat.le_of_ble_eq_true rfl, Nat.le_of_ble_eq_true rfl⟩) (ty_preE (wr := []) (wc := ([(rf_MO mo mw ma mf m0 m1 mu mv u0 u1 iz th mb mn mpt mbg mwr mwk mlf men), (rf_RW ct 0 mw 958 f1_80)] ++ ws_79)) (ci := 11) (q0 := 0) hP hK hD hS hA hX rfl rfl) rfl rfl hl.1 rfl (lv_room (Nat.le_of_ble_eq_true rfl)) dX11_startsOn_29 ⟨Nat.le_of_ble_eq_true rfl, Nat.le_of_ble_eq_true rfl⟩) hP hD hS hA (fun u H locs hw_89 hP hD hS => ?_)
  obtain ⟨ws_90, f1_91⟩ := u
  obtain ⟨hT, hp_92⟩ := hw_89
  have hp_92 : rf_d (f1_80 8) f1_80 f1_91 ∧ rf_R G p1.toInt f1_91 ∧ rf_sm f1_80 f1_91 ∧ f1_91 = upd f1_80 (244 + 54 * p1.toInt.toNat + 30) (0 : Int32) := hp_92
  obtain ⟨hd_93, hq_94⟩ := hp_92
  have hD_95 := rf_dt hD_84 hd_93
  have hR_96 := hq_94.1
  have pg_98 := (rf_smof (rf_c6 hR_85 hc) hq_94.2.1 (k := 1) (by decide)).trans pg_87
  have hP : va_P D vwCl ([(rf_MO mo mw ma mf m0 m1 mu mv u0 u1 iz th mb mn mpt mbg mwr mwk mlf men), (rf_RW ct 0 mw 958 f1_91)] ++ ws_90) H := hP
  have hD : va_D A ([(rf_MO mo mw ma mf m0 m1 mu mv u0 u1 iz th mb mn mpt mbg mwr mwk mlf men), (rf_RW ct 0 mw 958 f1_91)] ++ ws_90) := hD
  refine lv_iinc (v := 7) (lv' := [(3, .int 7), (0, .ref mo), (1, .int p1), (2, .int p2)]) hx hb dX11_startsOn_32 hl (k := 0) rfl (by decide) (by decide) rfl (fun ls hl => ?_)
  refine lv_goto (tgt := 16) hx hb dX11_startsOn_35 (by decide) ?_
  refine lv_iload_n hx hb dX11_startsOn_16 rfl (lv_at hl 0 rfl) ?_
  refine lv_bipush (v := 12) hx hb dX11_startsOn_17 (by decide) ?_
  refine lv_icmp_ge (tgt := 38) hx hb dX11_startsOn_19 (by decide) (fun hc => absurd hc (by decide)) (fun _ => ?_)
  refine lv_aload_n hx hb dX11_startsOn_22 rfl (lv_at hl 1 rfl) ?_
  refine lv_iload_n hx hb dX11_startsOn_23 rfl (lv_at hl 2 rfl) ?_
  refine lv_bipush (v := 24) hx hb dX11_startsOn_24 (by decide) ?_
  refine lv_iload_n hx hb dX11_startsOn_26 rfl (lv_at hl 0 rfl) ?_
  refine lv_iadd hx hb dX11_startsOn_27 ?_
  refine cm_cst (y := 31) (by decide) ?_
  refine lv_iconst (v := 0) hx hb dX11_startsOn_28 (by decide) ?_
  refine ty_kv (wr := []) (wc := ([(rf_MO mo mw ma mf m0 m1 mu mv u0 u1 iz th mb mn mpt mbg mwr mwk mlf men), (rf_RW ct 0 mw 958 f1_91)] ++ ws_90)) (va_runV (As := [.int p1, .int 31, .int 0]) (rest := []) ⟨hx, hb, hml, hown, hts⟩ (m_put_31 l D ct S ws_90 ph xx mo mw ma mf m0 m1 mu mv u0 u1 iz mb th mn mpt mbg mwr mwk mlf men f1_91 G p1.toInt p1 (0 : Int32) _ hT h_mu h_mv h_u0 h_u1 hph hy1 hR_96 hc (fun _ => (show 0 ≤ (0 : Int32).toInt from by decide))) (cm_V 3 hts kc_X11_put ki_RX11 kl_RX11_234 kv_X11_put kx_X11_put kd_X11_put ⟨Nat.le_of_ble_eq_true rfl, Nat.le_of_ble_eq_true rfl⟩) (ty_preE (wr := []) (wc := ([(rf_MO mo mw ma mf m0 m1 mu mv u0 u1 iz th mb mn mpt mbg mwr mwk mlf men), (rf_RW ct 0 mw 958 f1_91)] ++ ws_90)) (ci := 11) (q0 := 0) hP hK hD hS hA hX rfl rfl) rfl rfl hl.1 rfl (lv_room (Nat.le_of_ble_eq_true rfl)) dX11_startsOn_29 ⟨Nat.le_of_ble_eq_true rfl, Nat.le_of_ble_eq_true rfl⟩) hP hD hS hA (fun u H locs hw_100 hP hD hS => ?_)
  obtain ⟨ws_101, f1_102⟩ := u
  obtain ⟨hT, hp_103⟩ := hw_100
  have hp_103 : rf_d (f1_91 8) f1_91 f1_102 ∧ rf_R G p1.toInt f1_102 ∧ rf_sm f1_91 f1_102 ∧ f1_102 = upd f1_91 (244 + 54 * p1.toInt.toNat + 31) (0 : Int32) := hp_103
  obtain ⟨hd_104, hq_105⟩ := hp_103
  have hD_106 := rf_dt hD_95 hd_104
  have hR_107 := hq_105.1
  have pg_109 := (rf_smof (rf_c6 hR_96 hc) hq_105.2.1 (k := 1) (by decide)).trans pg_98
  have hP : va_P D vwCl ([(rf_MO mo mw ma mf m0 m1 mu mv u0 u1 iz th mb mn mpt mbg mwr mwk mlf men), (rf_RW ct 0 mw 958 f1_102)] ++ ws_101) H := hP
  have hD : va_D A ([(rf_MO mo mw ma mf m0 m1 mu mv u0 u1 iz th mb mn mpt mbg mwr mwk mlf men), (rf_RW ct 0 mw 958 f1_102)] ++ ws_101) := hD
  refine lv_iinc (v := 8) (lv' := [(3, .int 8), (0, .ref mo), (1, .int p1), (2, .int p2)]) hx hb dX11_startsOn_32 hl (k := 0) rfl (by decide) (by decide) rfl (fun ls hl => ?_)
  refine lv_goto (tgt := 16) hx hb dX11_startsOn_35 (by decide) ?_
  refine lv_iload_n hx hb dX11_startsOn_16 rfl (lv_at hl 0 rfl) ?_
  refine lv_bipush (v := 12) hx hb dX11_startsOn_17 (by decide) ?_
  refine lv_icmp_ge (tgt := 38) hx hb dX11_startsOn_19 (by decide) (fun hc => absurd hc (by decide)) (fun _ => ?_)
  refine lv_aload_n hx hb dX11_startsOn_22 rfl (lv_at hl 1 rfl) ?_
  refine lv_iload_n hx hb dX11_startsOn_23 rfl (lv_at hl 2 rfl) ?_
  refine lv_bipush (v := 24) hx hb dX11_startsOn_24 (by decide) ?_
  refine lv_iload_n hx hb dX11_startsOn_26 rfl (lv_at hl 0 rfl) ?_
  refine lv_iadd hx hb dX11_startsOn_27 ?_
  refine cm_cst (y := 32) (by decide) ?_
  refine lv_iconst (v := 0) hx hb dX11_startsOn_28 (by decide) ?_
  refine ty_kv (wr := []) (wc := ([(rf_MO mo mw ma mf m0 m1 mu mv u0 u1 iz th mb mn mpt mbg mwr mwk mlf men), (rf_RW ct 0 mw 958 f1_102)] ++ ws_101)) (va_runV (As := [.int p1, .int 32, .int 0]) (rest := []) ⟨hx, hb, hml, hown, hts⟩ (m_put_32 l D ct S ws_101 ph xx mo mw ma mf m0 m1 mu mv u0 u1 iz mb th mn mpt mbg mwr mwk mlf men f1_102 G p1.toInt p1 (0 : Int32) _ hT h_mu h_mv h_u0 h_u1 hph hy1 hR_107 hc (fun _ => (show 0 ≤ (0 : Int32).toInt from by decide))) (cm_V 3 hts kc_X11_put ki_RX11 kl_RX11_234 kv_X11_put kx_X11_put kd_X11_put ⟨Nat.le_of_ble_eq_true rfl, Nat.le_of_ble_eq_true rfl⟩) (ty_preE (wr := []) (wc := ([(rf_MO mo mw ma mf m0 m1 mu mv u0 u1 iz th mb mn mpt mbg mwr mwk mlf men), (rf_RW ct 0 mw 958 f1_102)] ++ ws_101)) (ci := 11) (q0 := 0) hP hK hD hS hA hX rfl rfl) rfl rfl hl.1 rfl (lv_room (Nat.le_of_ble_eq_true rfl)) dX11_startsOn_29 ⟨Nat.le_of_ble_eq_true rfl, Nat.le_of_ble_eq_true rfl⟩) hP hD hS hA (fun u H locs hw_111 hP hD hS => ?_)
  obtain ⟨ws_112, f1_113⟩ := u
  obtain ⟨hT, hp_114⟩ := hw_111
  have hp_114 : rf_d (f1_102 8) f1_102 f1_113 ∧ rf_R G p1.toInt f1_113 ∧ rf_sm f1_102 f1_113 ∧ f1_113 = upd f1_102 (244 + 54 * p1.toInt.toNat + 32) (0 : Int32) := hp_114
  obtain ⟨hd_115, hq_116⟩ := hp_114
  have hD_117 := rf_dt hD_106 hd_115
  have hR_118 := hq_116.1
  have pg_120 := (rf_smof (rf_c6 hR_107 hc) hq_116.2.1 (k := 1) (by decide)).trans pg_109
  have hP : va_P D vwCl ([(rf_MO mo mw ma mf m0 m1 mu mv u0 u1 iz th mb mn mpt mbg mwr mwk mlf men), (rf_RW ct 0 mw 958 f1_113)] ++ ws_112) H := hP
  have hD : va_D A ([(rf_MO mo mw ma mf m0 m1 mu mv u0 u1 iz th mb mn mpt mbg mwr mwk mlf men), (rf_RW ct 0 mw 958 f1_113)] ++ ws_112) := hD
  refine lv_iinc (v := 9) (lv' := [(3, .int 9), (0, .ref mo), (1, .int p1), (2, .int p2)]) hx hb dX11_startsOn_32 hl (k := 0) rfl (by decide) (by decide) rfl (fun ls hl => ?_)
  refine lv_goto (tgt := 16) hx hb dX11_startsOn_35 (by decide) ?_
  refine lv_iload_n hx hb dX11_startsOn_16 rfl (lv_at hl 0 rfl) ?_
  refine lv_bipush (v := 12) hx hb dX11_startsOn_17 (by decide) ?_
  refine lv_icmp_ge (tgt := 38) hx hb dX11_startsOn_19 (by decide) (fun hc => absurd hc (by decide)) (fun _ => ?_)
  refine lv_aload_n hx hb dX11_startsOn_22 rfl (lv_at hl 1 rfl) ?_
  refine lv_iload_n hx hb dX11_startsOn_23 rfl (lv_at hl 2 rfl) ?_
  refine lv_bipush (v := 24) hx hb dX11_startsOn_24 (by decide) ?_
  refine lv_iload_n hx hb dX11_startsOn_26 rfl (lv_at hl 0 rfl) ?_
  refine lv_iadd hx hb dX11_startsOn_27 ?_
  refine cm_cst (y := 33) (by decide) ?_
  refine lv_iconst (v := 0) hx hb dX11_startsOn_28 (by decide) ?_
  refine ty_kv (wr := []) (wc := ([(rf_MO mo mw ma mf m0 m1 mu mv u0 u1 iz th mb mn mpt mbg mwr mwk mlf men), (rf_RW ct 0 mw 958 f1_113)] ++ ws_112)) (va_runV (As := [.int p1, .int 33, .int 0]) (rest := []) ⟨hx, hb, hml, hown, hts⟩ (m_put_33 l D ct S ws_112 ph xx mo mw ma mf m0 m1 mu mv u0 u1 iz mb th mn mpt mbg mwr mwk mlf men f1_113 G p1.toInt p1 (0 : Int32) _ hT h_mu h_mv h_u0 h_u1 hph hy1 hR_118 hc (fun _ => (show 0 ≤ (0 : Int32).toInt from by decide))) (cm_V 3 hts kc_X11_put ki_RX11 kl_RX11_234 kv_X11_put kx_X11_put kd_X11_put ⟨Nat.le_of_ble_eq_true rfl, Nat.le_of_ble_eq_true rfl⟩) (ty_preE (wr := []) (wc := ([(rf_MO mo mw ma mf m0 m1 mu mv u0 u1 iz th mb mn mpt mbg mwr mwk mlf men), (rf_RW ct 0 mw 958 f1_113)] ++ ws_112)) (ci := 11) (q0 := 0) hP hK hD hS hA hX rfl rfl) rfl rfl hl.1 rfl (lv_room (Nat.le_of_ble_eq_true rfl)) dX11_startsOn_29 ⟨Nat.le_of_ble_eq_true rfl, Nat.le_of_ble_eq_true rfl⟩) hP hD hS hA (fun u H locs hw_122 hP hD hS => ?_)
  obtain ⟨ws_123, f1_124⟩ := u
  obtain ⟨hT, hp_125⟩ := hw_122
  have hp_125 : rf_d (f1_113 8) f1_113 f1_124 ∧ rf_R G p1.toInt f1_124 ∧ rf_sm f1_113 f1_124 ∧ f1_124 = upd f1_113 (244 + 54 * p1.toInt.toNat + 33) (0 : Int32) := hp_125
  obtain ⟨hd_126, hq_127⟩ := hp_125
  have hD_128 := rf_dt hD_117 hd_126
  have hR_129 := hq_127.1
  have pg_131 := (rf_smof (rf_c6 hR_118 hc) hq_127.2.1 (k := 1) (by decide)).trans pg_120
  have hP : va_P D vwCl ([(rf_MO mo mw ma mf m0 m1 mu mv u0 u1 iz th mb mn mpt mbg mwr mwk mlf men), (rf_RW ct 0 mw 958 f1_124)] ++ ws_123) H := hP
  have hD : va_D A ([(rf_MO mo mw ma mf m0 m1 mu mv u0 u1 iz th mb mn mpt mbg mwr mwk mlf men), (rf_RW ct 0 mw 958 f1_124)] ++ ws_123) := hD
  refine lv_iinc (v := 10) (lv' := [(3, .int 10), (0, .ref mo), (1, .int p1), (2, .int p2)]) hx hb dX11_startsOn_32 hl (k := 0) rfl (by decide) (by decide) rfl (fun ls hl => ?_)
  refine lv_goto (tgt := 16) hx hb dX11_startsOn_35 (by decide) ?_
  refine lv_iload_n hx hb dX11_startsOn_16 rfl (lv_at hl 0 rfl) ?_
  refine lv_bipush (v := 12) hx hb dX11_startsOn_17 (by decide) ?_
  refine lv_icmp_ge (tgt := 38) hx hb dX11_startsOn_19 (by decide) (fun hc => absurd hc (by decide)) (fun _ => ?_)
  refine lv_aload_n hx hb dX11_startsOn_22 rfl (lv_at hl 1 rfl) ?_
  refine lv_iload_n hx hb dX11_startsOn_23 rfl (lv_at hl 2 rfl) ?_
  refine lv_bipush (v := 24) hx hb dX11_startsOn_24 (by decide) ?_
  refine lv_iload_n hx hb dX11_startsOn_26 rfl (lv_at hl 0 rfl) ?_
  refine lv_iadd hx hb dX11_startsOn_27 ?_
  refine cm_cst (y := 34) (by decide) ?_
  refine lv_iconst (v := 0) hx hb dX11_startsOn_28 (by decide) ?_
  refine ty_kv (wr := []) (wc := ([(rf_MO mo mw ma mf m0 m1 mu mv u0 u1 iz th mb mn mpt mbg mwr mwk mlf men), (rf_RW ct 0 mw 958 f1_124)] ++ ws_123)) (va_runV (As := [.int p1, .int 34, .int 0]) (rest := []) ⟨hx, hb, hml, hown, hts⟩ (m_put_34 l D ct S ws_123 ph xx mo mw ma mf m0 m1 mu mv u0 u1 iz mb th mn mpt mbg mwr mwk mlf men f1_124 G p1.toInt p1 (0 : Int32) _ hT h_mu h_mv h_u0 h_u1 hph hy1 hR_129 hc (fun _ => (show 0 ≤ (0 : Int32).toInt from by decide))) (cm_V 3 hts kc_X11_put ki_RX11 kl_RX11_234 kv_X11_put kx_X11_put kd_X11_put ⟨Nat.le_of_ble_eq_true rfl, Nat.le_of_ble_eq_true rfl⟩) (ty_preE (wr := []) (wc := ([(rf_MO mo mw ma mf m0 m1 mu mv u0 u1 iz th mb mn mpt mbg mwr mwk mlf men), (rf_RW ct 0 mw 958 f1_124)] ++ ws_123)) (ci := 11) (q0 := 0) hP hK hD hS hA hX rfl rfl) rfl rfl hl.1 rfl (lv_room (Nat.le_of_ble_eq_true rfl)) dX11_startsOn_29 ⟨Nat.le_of_ble_eq_true rfl, Nat.le_of_ble_eq_true rfl⟩) hP hD hS hA (fun u H locs hw_133 hP hD hS => ?_)
  obtain ⟨ws_134, f1_135⟩ := u
  obtain ⟨hT, hp_136⟩ := hw_133
  have hp_136 : rf_d (f1_124 8) f1_124 f1_135 ∧ rf_R G p1.toInt f1_135 ∧ rf_sm f1_124 f1_135 ∧ f1_135 = upd f1_124 (244 + 54 * p1.toInt.toNat + 34) (0 : Int32) := hp_136
  obtain ⟨hd_137, hq_138⟩ := hp_136
  have hD_139 := rf_dt hD_128 hd_137
  have hR_140 := hq_138.1
  have pg_142 := (rf_smof (rf_c6 hR_129 hc) hq_138.2.1 (k := 1) (by decide)).trans pg_131
  have hP : va_P D vwCl ([(rf_MO mo mw ma mf m0 m1 mu mv u0 u1 iz th mb mn mpt mbg mwr mwk mlf men), (rf_RW ct 0 mw 958 f1_135)] ++ ws_134) H := hP
  have hD : va_D A ([(rf_MO mo mw ma mf m0 m1 mu mv u0 u1 iz th mb mn mpt mbg mwr mwk mlf men), (rf_RW ct 0 mw 958 f1_135)] ++ ws_134) := hD
  refine lv_iinc (v := 11) (lv' := [(3, .int 11), (0, .ref mo), (1, .int p1), (2, .int p2)]) hx hb dX11_startsOn_32 hl (k := 0) rfl (by decide) (by decide) rfl (fun ls hl => ?_)
  refine lv_goto (tgt := 16) hx hb dX11_startsOn_35 (by decide) ?_
  refine lv_iload_n hx hb dX11_startsOn_16 rfl (lv_at hl 0 rfl) ?_
  refine lv_bipush (v := 12) hx hb dX11_startsOn_17 (by decide) ?_
  refine lv_icmp_ge (tgt := 38) hx hb dX11_startsOn_19 (by decide) (fun hc => absurd hc (by decide)) (fun _ => ?_)
  refine lv_aload_n hx hb dX11_startsOn_22 rfl (lv_at hl 1 rfl) ?_
  refine lv_iload_n hx hb dX11_startsOn_23 rfl (lv_at hl 2 rfl) ?_
  refine lv_bipush (v := 24) hx hb dX11_startsOn_24 (by decide) ?_
  refine lv_iload_n hx hb dX11_startsOn_26 rfl (lv_at hl 0 rfl) ?_
  refine lv_iadd hx hb dX11_startsOn_27 ?_
  refine cm_cst (y := 35) (by decide) ?_
  refine lv_iconst (v := 0) hx hb dX11_startsOn_28 (by decide) ?_
  refine ty_kv (wr := []) (wc := ([(rf_MO mo mw ma mf m0 m1 mu mv u0 u1 iz th mb mn mpt mbg mwr mwk mlf men), (rf_RW ct 0 mw 958 f1_135)] ++ ws_134)) (va_runV (As := [.int p1, .int 35, .int 0]) (rest := []) ⟨hx, hb, hml, hown, hts⟩ (m_put_35 l D ct S ws_134 ph xx mo mw ma mf m0 m1 mu mv u0 u1 iz mb th mn mpt mbg mwr mwk mlf men f1_135 G p1.toInt p1 (0 : Int32) _ hT h_mu h_mv h_u0 h_u1 hph hy1 hR_140 hc (fun _ => (show 0 ≤ (0 : Int32).toInt from by decide))) (cm_V 3 hts kc_X11_put ki_RX11 kl_RX11_234 kv_X11_put kx_X11_put kd_X11_put ⟨Nat.le_of_ble_eq_true rfl, Nat.le_of_ble_eq_true rfl⟩) (ty_preE (wr := []) (wc := ([(rf_MO mo mw ma mf m0 m1 mu mv u0 u1 iz th mb mn mpt mbg mwr mwk mlf men), (rf_RW ct 0 mw 958 f1_135)] ++ ws_134)) (ci := 11) (q0 := 0) hP hK hD hS hA hX rfl rfl) rfl rfl hl.1 rfl (lv_room (Nat.le_of_ble_eq_true rfl)) dX11_startsOn_29 ⟨Nat.le_of_ble_eq_true rfl, Nat.le_of_ble_eq_true rfl⟩) hP hD hS hA (fun u H locs hw_144 hP hD hS => ?_)
  obtain ⟨ws_145, f1_146⟩ := u
  obtain ⟨hT, hp_147⟩ := hw_144
  have hp_147 : rf_d (f1_135 8) f1_135 f1_146 ∧ rf_R G p1.toInt f1_146 ∧ rf_sm f1_135 f1_146 ∧ f1_146 = upd f1_135 (244 + 54 * p1.toInt.toNat + 35) (0 : Int32) := hp_147
  obtain ⟨hd_148, hq_149⟩ := hp_147
  have hD_150 := rf_dt hD_139 hd_148
  have hR_151 := hq_149.1
  have pg_153 := (rf_smof (rf_c6 hR_140 hc) hq_149.2.1 (k := 1) (by decide)).trans pg_142
  have hP : va_P D vwCl ([(rf_MO mo mw ma mf m0 m1 mu mv u0 u1 iz th mb mn mpt mbg mwr mwk mlf men), (rf_RW ct 0 mw 958 f1_146)] ++ ws_145) H := hP
  have hD : va_D A ([(rf_MO mo mw ma mf m0 m1 mu mv u0 u1 iz th mb mn mpt mbg mwr mwk mlf men), (rf_RW ct 0 mw 958 f1_146)] ++ ws_145) := hD
  refine lv_iinc (v := 12) (lv' := [(3, .int 12), (0, .ref mo), (1, .int p1), (2, .int p2)]) hx hb dX11_startsOn_32 hl (k := 0) rfl (by decide) (by decide) rfl (fun ls hl => ?_)
  refine lv_goto (tgt := 16) hx hb dX11_startsOn_35 (by decide) ?_
  refine lv_iload_n hx hb dX11_startsOn_16 rfl (lv_at hl 0 rfl) ?_
  refine lv_bipush (v := 12) hx hb dX11_startsOn_17 (by decide) ?_
  refine lv_icmp_ge (tgt := 38) hx hb dX11_startsOn_19 (by decide) (fun _ => ?_) (fun hc => absurd (by decide) hc)
  refine lv_aload_n hx hb dX11_startsOn_38 rfl (lv_at hl 1 rfl) ?_
  refine lv_iload_n hx hb dX11_startsOn_39 rfl (lv_at hl 2 rfl) ?_
  refine ty_kv (wr := []) (wc := ([(rf_MO mo mw ma mf m0 m1 mu mv u0 u1 iz th mb mn mpt mbg mwr mwk mlf men), (rf_RW ct 0 mw 958 f1_146)] ++ ws_145)) (va_runV (As := [.int p1]) (rest := []) ⟨hx, hb, hml, hown, hts⟩ (m_X11_clears l D ct S ws_145 ph xx mo mw ma mf m0 m1 mu mv u0 u1 iz mb th mn mpt mbg mwr mwk mlf men f1_146 G p1.toInt p1 _ hT h_mu h_mv h_u0 h_u1 hph hy1 hy11 hR_151 hc) (cm_V 1 hts kc_X11_clears ki_RX11 kl_RX11_272 kv_X11_clears kx_X11_clears kd_X11_clears ⟨Nat.le_of_ble_eq_true rfl, Nat.le_of_ble_eq_true rfl⟩) (ty_preE (wr := []) (wc := ([(rf_MO mo mw ma mf m0 m1 mu mv u0 u1 iz th mb mn mpt mbg mwr mwk mlf men), (rf_RW ct 0 mw 958 f1_146)] ++ ws_145)) (ci := 11) (q0 := 0) hP hK hD hS hA hX rfl rfl) rfl rfl hl.1 rfl (lv_room (Nat.le_of_ble_eq_true rfl)) dX11_startsOn_40 ⟨Nat.le_of_ble_eq_true rfl, Nat.le_of_ble_eq_true rfl⟩) hP hD hS hA (fun u H locs hw_155 hP hD hS => ?_)
  obtain ⟨ws_156, f1_157⟩ := u
  obtain ⟨hT, hp_158⟩ := hw_155
  have hp_158 : rf_d (f1_146 8) f1_146 f1_157 ∧ rf_R G p1.toInt f1_157 ∧ rf_sm f1_146 f1_157 := hp_158
  obtain ⟨hd_159, hq_160⟩ := hp_158
  have hD_161 := rf_dt hD_150 hd_159
  have hR_162 := hq_160.1
  have pg_164 := (rf_smof (rf_c6 hR_151 hc) hq_160.2 (k := 1) (by decide)).trans pg_153
  have hP : va_P D vwCl ([(rf_MO mo mw ma mf m0 m1 mu mv u0 u1 iz th mb mn mpt mbg mwr mwk mlf men), (rf_RW ct 0 mw 958 f1_157)] ++ ws_156) H := hP
  have hD : va_D A ([(rf_MO mo mw ma mf m0 m1 mu mv u0 u1 iz th mb mn mpt mbg mwr mwk mlf men), (rf_RW ct 0 mw 958 f1_157)] ++ ws_156) := hD
  refine lv_aload_n hx hb dX11_startsOn_43 rfl (lv_at hl 1 rfl) ?_
  refine lv_iload_n hx hb dX11_startsOn_44 rfl (lv_at hl 2 rfl) ?_
  refine lv_iconst (v := 0) hx hb dX11_startsOn_45 (by decide) ?_
  refine lv_iload_n hx hb dX11_startsOn_46 rfl (lv_at hl 3 rfl) ?_
  refine ty_kv (wr := []) (wc := ([(rf_MO mo mw ma mf m0 m1 mu mv u0 u1 iz th mb mn mpt mbg mwr mwk mlf men), (rf_RW ct 0 mw 958 f1_157)] ++ ws_156)) (va_runV (As := [.int p1, .int 0, .int p2]) (rest := []) ⟨hx, hb, hml, hown, hts⟩ (m_X11_notes l D ct S ws_156 ph xx mo mw ma mf m0 m1 mu mv u0 u1 iz mb th mn mpt mbg mwr mwk mlf men f1_157 G p1.toInt p1 (0 : Int32) p2 _ hT h_mu h_mv h_u0 h_u1 hph hy1 hR_162) (cm_V 3 hts kc_X11_notes ki_RX11 kl_RX11_282 kv_X11_notes kx_X11_notes kd_X11_notes ⟨Nat.le_of_ble_eq_true rfl, Nat.le_of_ble_eq_true rfl⟩) (ty_preE (wr := []) (wc := ([(rf_MO mo mw ma mf m0 m1 mu mv u0 u1 iz th mb mn mpt mbg mwr mwk mlf men), (rf_RW ct 0 mw 958 f1_157)] ++ ws_156)) (ci := 11) (q0 := 0) hP hK hD hS hA hX rfl rfl) rfl rfl hl.1 rfl (lv_room (Nat.le_of_ble_eq_true rfl)) dX11_startsOn_47 ⟨Nat.le_of_ble_eq_true rfl, Nat.le_of_ble_eq_true rfl⟩) hP hD hS hA (fun u H locs hw_166 hP hD hS => ?_)
  obtain ⟨ws_167, f1_168⟩ := u
  obtain ⟨hT, hp_169⟩ := hw_166
  have hp_169 : rf_d (f1_157 8) f1_157 f1_168 ∧ rf_R G p1.toInt f1_168 ∧ rf_sm f1_157 f1_168 := hp_169
  obtain ⟨hd_170, hq_171⟩ := hp_169
  have hD_172 := rf_dt hD_161 hd_170
  have hR_173 := hq_171.1
  have pg_175 := (rf_smof (rf_c6 hR_162 hc) hq_171.2 (k := 1) (by decide)).trans pg_164
  have hP : va_P D vwCl ([(rf_MO mo mw ma mf m0 m1 mu mv u0 u1 iz th mb mn mpt mbg mwr mwk mlf men), (rf_RW ct 0 mw 958 f1_168)] ++ ws_167) H := hP
  have hD : va_D A ([(rf_MO mo mw ma mf m0 m1 mu mv u0 u1 iz th mb mn mpt mbg mwr mwk mlf men), (rf_RW ct 0 mw 958 f1_168)] ++ ws_167) := hD
  refine lv_aload_n hx hb dX11_startsOn_50 rfl (lv_at hl 1 rfl) ?_
  refine lv_iload_n hx hb dX11_startsOn_51 rfl (lv_at hl 2 rfl) ?_
  refine lv_iconst (v := 0) hx hb dX11_startsOn_52 (by decide) ?_
  refine ty_kv (wr := []) (wc := ([(rf_MO mo mw ma mf m0 m1 mu mv u0 u1 iz th mb mn mpt mbg mwr mwk mlf men), (rf_RW ct 0 mw 958 f1_168)] ++ ws_167)) (va_runV (As := [.int p1, .int 0]) (rest := []) ⟨hx, hb, hml, hown, hts⟩ (m_comes_0 l D ct S ws_167 ph xx mo mw ma mf m0 m1 mu mv u0 u1 iz mb th mn mpt mbg mwr mwk mlf men f1_168 G p1.toInt p1 _ hT h_mu h_mv h_u0 h_u1 hph hy1 hy11 hR_173 hc (Or.inr rfl) (by rw [pg_175]; exact hpr)) (cm_V 2 hts kc_X11_comes ki_RX11 kl_RX11_291 kv_X11_comes kx_X11_comes kd_X11_comes ⟨Nat.le_of_ble_eq_true rfl, Nat.le_of_ble_eq_true rfl⟩) (ty_preE (wr := []) (wc := ([(rf_MO mo mw ma mf m0 m1 mu mv u0 u1 iz th mb mn mpt mbg mwr mwk mlf men), (rf_RW ct 0 mw 958 f1_168)] ++ ws_167)) (ci := 11) (q0 := 0) hP hK hD hS hA hX rfl rfl) rfl rfl hl.1 rfl (lv_room (Nat.le_of_ble_eq_true rfl)) dX11_startsOn_53 ⟨Nat.le_of_ble_eq_true rfl, Nat.le_of_ble_eq_true rfl⟩) hP hD hS hA (fun u H locs hw_177 hP hD hS => ?_)
  obtain ⟨ws_178, f1_179⟩ := u
  obtain ⟨hT, hp_180⟩ := hw_177
  have hp_180 : rf_d (f1_168 8) f1_168 f1_179 ∧ rf_R G (-1) f1_179 := hp_180
  obtain ⟨hd_181, hq_182⟩ := hp_180
  have hD_183 := rf_dt hD_172 hd_181
  have hR_184 := hq_182
  have hP : va_P D vwCl ([(rf_MO mo mw ma mf m0 m1 mu mv u0 u1 iz th mb mn mpt mbg mwr mwk mlf men), (rf_RW ct 0 mw 958 f1_179)] ++ ws_178) H := hP
  have hD : va_D A ([(rf_MO mo mw ma mf m0 m1 mu mv u0 u1 iz th mb mn mpt mbg mwr mwk mlf men), (rf_RW ct 0 mw 958 f1_179)] ++ ws_178) := hD
  exact W.vret hx hb hr (fun t ht hW => ⟨⟨(ws_178, f1_179), rfl, ⟨hT, ⟨hD_183, hR_184⟩⟩, by rw [ht]; exact hP, by rw [hAe]; exact hD⟩, hS.F ht⟩) hS.2.2 dX11_startsOn_56
theorem dX11_comesToEnd_0 : decode cX11_comesToEnd 0 = .ok (.aload_n 0, 1) := by decide +kernel
theorem dX11_comesToEnd_1 : decode cX11_comesToEnd 1 = .ok (.iload_n 1, 1) := by decide +kernel
theorem dX11_comesToEnd_2 : decode cX11_comesToEnd 2 = .ok (.iconst 0, 1) := by decide +kernel
theorem dX11_comesToEnd_3 : decode cX11_comesToEnd 3 = .ok (.iconst 3, 1) := by decide +kernel
theorem dX11_comesToEnd_4 : decode cX11_comesToEnd 4 = .ok (.invokevirtual 234, 3) := by decide +kernel
theorem dX11_comesToEnd_7 : decode cX11_comesToEnd 7 = .ok (.aload_n 0, 1) := by decide +kernel
theorem dX11_comesToEnd_8 : decode cX11_comesToEnd 8 = .ok (.iload_n 1, 1) := by decide +kernel
theorem dX11_comesToEnd_9 : decode cX11_comesToEnd 9 = .ok (.iconst 2, 1) := by decide +kernel
theorem dX11_comesToEnd_10 : decode cX11_comesToEnd 10 = .ok (.iconst 0, 1) := by decide +kernel
theorem dX11_comesToEnd_11 : decode cX11_comesToEnd 11 = .ok (.invokevirtual 282, 3) := by decide +kernel
theorem dX11_comesToEnd_14 : decode cX11_comesToEnd 14 = .ok (.aload_n 0, 1) := by decide +kernel
theorem dX11_comesToEnd_15 : decode cX11_comesToEnd 15 = .ok (.iload_n 1, 1) := by decide +kernel
theorem dX11_comesToEnd_16 : decode cX11_comesToEnd 16 = .ok (.bipush 39, 2) := by decide +kernel
theorem dX11_comesToEnd_18 : decode cX11_comesToEnd 18 = .ok (.invokevirtual 209, 3) := by decide +kernel
theorem dX11_comesToEnd_21 : decode cX11_comesToEnd 21 = .ok (.ifCond .le 13, 3) := by decide +kernel
theorem dX11_comesToEnd_24 : decode cX11_comesToEnd 24 = .ok (.aload_n 0, 1) := by decide +kernel
theorem dX11_comesToEnd_25 : decode cX11_comesToEnd 25 = .ok (.iload_n 1, 1) := by decide +kernel
theorem dX11_comesToEnd_26 : decode cX11_comesToEnd 26 = .ok (.aload_n 0, 1) := by decide +kernel
theorem dX11_comesToEnd_27 : decode cX11_comesToEnd 27 = .ok (.iload_n 1, 1) := by decide +kernel
theorem dX11_comesToEnd_28 : decode cX11_comesToEnd 28 = .ok (.invokevirtual 285, 3) := by decide +kernel
theorem dX11_comesToEnd_31 : decode cX11_comesToEnd 31 = .ok (.invokevirtual 288, 3) := by decide +kernel
theorem dX11_comesToEnd_34 : decode cX11_comesToEnd 34 = .ok (.return_, 1) := by decide +kernel
set_option maxRecDepth 100000 in
set_option maxHeartbeats 4000000 in
theorem m_X11_comesToEnd (l : Launch) (D : va_G) (ct : Nat → ClassId) (S : ty_S) (ws : va_W) (ph : va_W → Prop) (xx : Nat → Nat → Nat → Prop) (mo : Nat) (mw : Nat) (ma : Nat) (mf : Nat) (m0 : Nat) (m1 : Nat) (mu : Nat) (mv : Nat) (u0 : Nat) (u1 : Nat) (iz : Nat) (mb : Nat) (th : Int32) (mn : Int32) (mpt : Int32) (mbg : Int32) (mwr : Int32) (mwk : Int32) (mlf : Int32) (men : Int32) (f : Nat → Int32) (G : Nat → Int32) (cx : Int) (p1 : Int32) (sz : Nat) (hT : ty_V ct S ph ws) (h_mu : S mu = some (.inr (1, 42))) (h_mv : S mv = some (.inr (1, 42))) (h_u0 : S u0 = some (.inr (1, 42))) (h_u1 : S u1 = some (.inr (1, 42))) (hph : ty_C ph xx) (hy1 : ty_y1 xx) (hy11 : ty_y0 xx 11) (hR : rf_R G cx f) (hc : 0 ≤ p1.toInt ∧ p1.toInt < (G 9).toInt) (hcx : cx = -1 ∨ cx = p1.toInt) : Met l yX11_comesToEnd (ws_ yX11_comesToEnd cX11_comesToEnd 2 none) ({ frames := 3, cells := 0, slots := 0, locals := 72 } : Room) (va_Pc [.ref mo, .int p1] (cmP D ct sz ([(rf_MO mo mw ma mf m0 m1 mu mv u0 u1 iz th mb mn mpt mbg mwr mwk mlf men), (rf_RW ct 0 mw 958 f)] ++ ws))) (va_Qv (fun (u : va_W × (Nat → Int32)) => match u with | (u9, f1) => ty_V ct S ph u9 ∧ rf_d (f 8) f f1 ∧ rf_R G (-1) f1) (cmB D ([(rf_MO mo mw ma mf m0 m1 mu mv u0 u1 iz th mb mn mpt mbg mwr mwk mlf men), (rf_RW ct 0 mw 958 f)] ++ ws) sz (fun (u : va_W × (Nat → Int32)) => match u with | (u9, f1) => ([(rf_MO mo mw ma mf m0 m1 mu mv u0 u1 iz th mb mn mpt mbg mwr mwk mlf men), (rf_RW ct 0 mw 958 f1)] ++ u9))) (va_A ([(rf_MO mo mw ma mf m0 m1 mu mv u0 u1 iz th mb mn mpt mbg mwr mwk mlf men), (rf_RW ct 0 mw 958 f)] ++ ws) sz)) 0 0 (va_A ([(rf_MO mo mw ma mf m0 m1 mu mv u0 u1 iz th mb mn mpt mbg mwr mwk mlf men), (rf_RW ct 0 mw 958 f)] ++ ws) sz) := by
  refine Met.ofW (cc := cX11_comesToEnd) (maxL := 2) (ret := none) (by decide) rfl ?_
  intro p e s m args below meth c s₁ B hml hv
  obtain ⟨rfl, hsz, hP, hK, hD0, hX⟩ := hv
  have hx := B.exec
  have hb := B.bytes
  have hr := B.returns
  have hts := ws_all (atoms_spec (ws := ws_ yX11_comesToEnd cX11_comesToEnd 2 none) B.pre)
  have hown : s.vm.findClass RX11 = some m.cls := findClass_of_methodNamed B.named
  have hlocks := B.notSynchronized
  subst hsz
  have hD := hD0.self (sz := s.heap.size)
  generalize hAe : va_A ([(rf_MO mo mw ma mf m0 m1 mu mv u0 u1 iz th mb mn mpt mbg mwr mwk mlf men), (rf_RW ct 0 mw 958 f)] ++ ws) s.heap.size = A at hD hX ⊢
  have hA : ∀ q : Nat, s.heap.size ≤ q → A q := fun q h => by rw [← hAe]; exact Or.inr h
  have hS : va_S A s.heap s.heap [] := va_S.rf
  have hl := lv_entry ([.ref mo, .int p1]) (n := 2) (Nat.le_of_ble_eq_true rfl)
  rw [lg_entry_eq]
  generalize (lg_sl ([.ref mo, .int p1]) ++ List.replicate (2 - (lg_sl ([.ref mo, .int p1])).length) Slot.unset).toArray = ls at hl ⊢
  have hl : lv_has ls 2 [(0, .ref mo), (1, .int p1)] := hl
  refine lv_aload_n hx hb dX11_comesToEnd_0 rfl (lv_at hl 0 rfl) ?_
  refine lv_iload_n hx hb dX11_comesToEnd_1 rfl (lv_at hl 1 rfl) ?_
  refine lv_iconst (v := 0) hx hb dX11_comesToEnd_2 (by decide) ?_
  refine lv_iconst (v := 3) hx hb dX11_comesToEnd_3 (by decide) ?_
  refine ty_kv (wr := []) (wc := ([(rf_MO mo mw ma mf m0 m1 mu mv u0 u1 iz th mb mn mpt mbg mwr mwk mlf men), (rf_RW ct 0 mw 958 f)] ++ ws)) (va_runV (As := [.int p1, .int 0, .int 3]) (rest := []) ⟨hx, hb, hml, hown, hts⟩ (m_put_0 l D ct S ws ph xx mo mw ma mf m0 m1 mu mv u0 u1 iz mb th mn mpt mbg mwr mwk mlf men f G cx p1 (3 : Int32) _ hT h_mu h_mv h_u0 h_u1 hph hy1 hR hc hcx) (cm_V 3 hts kc_X11_put ki_RX11 kl_RX11_234 kv_X11_put kx_X11_put kd_X11_put ⟨Nat.le_of_ble_eq_true rfl, Nat.le_of_ble_eq_true rfl⟩) (ty_preE (wr := []) (wc := ([(rf_MO mo mw ma mf m0 m1 mu mv u0 u1 iz th mb mn mpt mbg mwr mwk mlf men), (rf_RW ct 0 mw 958 f)] ++ ws)) (ci := 11) (q0 := 0) hP hK hD hS hA hX rfl rfl) rfl rfl hl.1 rfl (lv_room (Nat.le_of_ble_eq_true rfl)) dX11_comesToEnd_4 ⟨Nat.le_of_ble_eq_true rfl, Nat.le_of_ble_eq_true rfl⟩) hP hD hS hA (fun u H locs hw_2 hP hD hS => ?_)
  obtain ⟨ws_3, f1_4⟩ := u
  obtain ⟨hT, hp_5⟩ := hw_2
  have hp_5 : rf_d (f 8) f f1_4 ∧ rf_R G p1.toInt f1_4 ∧ f1_4 = upd f (244 + 54 * p1.toInt.toNat + 0) (3 : Int32) := hp_5
  obtain ⟨hd_6, hq_7⟩ := hp_5
  have hD_8 := rf_dt (rf_dr f) hd_6
  have hR_9 := hq_7.1
  have hP : va_P D vwCl ([(rf_MO mo mw ma mf m0 m1 mu mv u0 u1 iz th mb mn mpt mbg mwr mwk mlf men), (rf_RW ct 0 mw 958 f1_4)] ++ ws_3) H := hP
  have hD : va_D A ([(rf_MO mo mw ma mf m0 m1 mu mv u0 u1 iz th mb mn mpt mbg mwr mwk mlf men), (rf_RW ct 0 mw 958 f1_4)] ++ ws_3) := hD
  have pg_11 : rf_of f1_4 p1 0 = 3 := by rw [hq_7.2]; exact rf_eq
  refine lv_aload_n hx hb dX11_comesToEnd_7 rfl (lv_at hl 0 rfl) ?_
  refine lv_iload_n hx hb dX11_comesToEnd_8 rfl (lv_at hl 1 rfl) ?_
  refine lv_iconst (v := 2) hx hb dX11_comesToEnd_9 (by decide) ?_
  refine lv_iconst (v := 0) hx hb dX11_comesToEnd_10 (by decide) ?_
  refine ty_kv (wr := []) (wc := ([(rf_MO mo mw ma mf m0 m1 mu mv u0 u1 iz th mb mn mpt mbg mwr mwk mlf men), (rf_RW ct 0 mw 958 f1_4)] ++ ws_3)) (va_runV (As := [.int p1, .int 2, .int 0]) (rest := []) ⟨hx, hb, hml, hown, hts⟩ (m_X11_notes l D ct S ws_3 ph xx mo mw ma mf m0 m1 mu mv u0 u1 iz mb th mn mpt mbg mwr mwk mlf men f1_4 G p1.toInt p1 (2 : Int32) (0 : Int32) _ hT h_mu h_mv h_u0 h_u1 hph hy1 hR_9) (cm_V 3 hts kc_X11_notes ki_RX11 kl_RX11_282 kv_X11_notes kx_X11_notes kd_X11_notes ⟨Nat.le_of_ble_eq_true rfl, Nat.le_of_ble_eq_true rfl⟩) (ty_preE (wr := []) (wc := ([(rf_MO mo mw ma mf m0 m1 mu mv u0 u1 iz th mb mn mpt mbg mwr mwk mlf men), (rf_RW ct 0 mw 958 f1_4)] ++ ws_3)) (ci := 11) (q0 := 0) hP hK hD hS hA hX rfl rfl) rfl rfl hl.1 rfl (lv_room (Nat.le_of_ble_eq_true rfl)) dX11_comesToEnd_11 ⟨Nat.le_of_ble_eq_true rfl, Nat.le_of_ble_eq_true rfl⟩) hP hD hS hA (fun u H locs hw_13 hP hD hS => ?_)
  obtain ⟨ws_14, f1_15⟩ := u
  obtain ⟨hT, hp_16⟩ := hw_13
  have hp_16 : rf_d (f1_4 8) f1_4 f1_15 ∧ rf_R G p1.toInt f1_15 ∧ rf_sm f1_4 f1_15 := hp_16
  obtain ⟨hd_17, hq_18⟩ := hp_16
  have hD_19 := rf_dt hD_8 hd_17
  have hR_20 := hq_18.1
  have pg_22 := (rf_smof (rf_c6 hR_9 hc) hq_18.2 (k := 0) (by decide)).trans pg_11
  have hP : va_P D vwCl ([(rf_MO mo mw ma mf m0 m1 mu mv u0 u1 iz th mb mn mpt mbg mwr mwk mlf men), (rf_RW ct 0 mw 958 f1_15)] ++ ws_14) H := hP
  have hD : va_D A ([(rf_MO mo mw ma mf m0 m1 mu mv u0 u1 iz th mb mn mpt mbg mwr mwk mlf men), (rf_RW ct 0 mw 958 f1_15)] ++ ws_14) := hD
  refine lv_aload_n hx hb dX11_comesToEnd_14 rfl (lv_at hl 0 rfl) ?_
  refine lv_iload_n hx hb dX11_comesToEnd_15 rfl (lv_at hl 1 rfl) ?_
  refine lv_bipush (v := 39) hx hb dX11_comesToEnd_16 (by decide) ?_
  refine ty_ki (wr := []) (wc := ([(rf_MO mo mw ma mf m0 m1 mu mv u0 u1 iz th mb mn mpt mbg mwr mwk mlf men), (rf_RW ct 0 mw 958 f1_15)] ++ ws_14)) (va_runV (As := [.int p1, .int 39]) (rest := []) ⟨hx, hb, hml, hown, hts⟩ (m_of_39 l D ct S ws_14 ph xx mo mw ma mf m0 m1 mu mv u0 u1 iz mb th mn mpt mbg mwr mwk mlf men f1_15 G p1.toInt p1 _ hT h_mu h_mv h_u0 h_u1 hph hy1 hR_20 hc) (cm_V 2 hts kc_X11_of ki_RX11 kl_RX11_209 kv_X11_of kx_X11_of kd_X11_of ⟨Nat.le_of_ble_eq_true rfl, Nat.le_of_ble_eq_true rfl⟩) (ty_preE (wr := []) (wc := ([(rf_MO mo mw ma mf m0 m1 mu mv u0 u1 iz th mb mn mpt mbg mwr mwk mlf men), (rf_RW ct 0 mw 958 f1_15)] ++ ws_14)) (ci := 11) (q0 := 0) hP hK hD hS hA hX rfl rfl) rfl rfl hl.1 rfl (lv_room (Nat.le_of_ble_eq_true rfl)) dX11_comesToEnd_18 ⟨Nat.le_of_ble_eq_true rfl, Nat.le_of_ble_eq_true rfl⟩) hP hD hS hA (fun r_23 u H locs hw_24 hP hD hS => ?_)
  obtain ⟨ws_25, rfl⟩ : ∃ z, z = u := ⟨_, rfl⟩
  obtain ⟨hT, rfl⟩ := hw_24
  have hP : va_P D vwCl ([(rf_MO mo mw ma mf m0 m1 mu mv u0 u1 iz th mb mn mpt mbg mwr mwk mlf men), (rf_RW ct 0 mw 958 f1_15)] ++ ws_25) H := hP
  have hD : va_D A ([(rf_MO mo mw ma mf m0 m1 mu mv u0 u1 iz th mb mn mpt mbg mwr mwk mlf men), (rf_RW ct 0 mw 958 f1_15)] ++ ws_25) := hD
  refine lv_if_le (tgt := 34) hx hb dX11_comesToEnd_21 (by decide) (fun hc_26 => ?_) (fun hc_26 => ?_)
  · have hR_27 := rf_back9 hc.1 hR_20 (Or.inr rfl) (rf_runno (by rw [pg_22]; decide) (by rw [pg_22]; decide))
    exact W.vret hx hb hr (fun t ht hW => ⟨⟨(ws_25, f1_15), rfl, ⟨hT, ⟨hD_19, hR_27⟩⟩, by rw [ht]; exact hP, by rw [hAe]; exact hD⟩, hS.F ht⟩) hS.2.2 dX11_comesToEnd_34
  · refine lv_aload_n hx hb dX11_comesToEnd_24 rfl (lv_at hl 0 rfl) ?_
    refine lv_iload_n hx hb dX11_comesToEnd_25 rfl (lv_at hl 1 rfl) ?_
    refine lv_aload_n hx hb dX11_comesToEnd_26 rfl (lv_at hl 0 rfl) ?_
    refine lv_iload_n hx hb dX11_comesToEnd_27 rfl (lv_at hl 1 rfl) ?_
    refine ty_ki (wr := []) (wc := ([(rf_MO mo mw ma mf m0 m1 mu mv u0 u1 iz th mb mn mpt mbg mwr mwk mlf men), (rf_RW ct 0 mw 958 f1_15)] ++ ws_25)) (va_runV (As := [.int p1]) (rest := [.int p1, .ref mo]) ⟨hx, hb, hml, hown, hts⟩ (m_X11_leavesQueue l D ct S ws_25 ph xx mo mw ma mf m0 m1 mu mv u0 u1 iz mb th mn mpt mbg mwr mwk mlf men f1_15 G p1.toInt p1 _ hT h_mu h_mv h_u0 h_u1 hph hy1 hR_20 hc (rf_pos hc_26)) (cm_V 1 hts kc_X11_leavesQueue ki_RX11 kl_RX11_285 kv_X11_leavesQueue kx_X11_leavesQueue kd_X11_leavesQueue ⟨Nat.le_of_ble_eq_true rfl, Nat.le_of_ble_eq_true rfl⟩) (ty_preE (wr := []) (wc := ([(rf_MO mo mw ma mf m0 m1 mu mv u0 u1 iz th mb mn mpt mbg mwr mwk mlf men), (rf_RW ct 0 mw 958 f1_15)] ++ ws_25)) (ci := 11) (q0 := 0) hP hK hD hS hA hX rfl rfl) rfl rfl hl.1 rfl (lv_room (Nat.le_of_ble_eq_true rfl)) dX11_comesToEnd_28 ⟨Nat.le_of_ble_eq_true rfl, Nat.le_of_ble_eq_true rfl⟩) hP hD hS hA (fun r_28 u H locs hw_29 hP hD hS => ?_)
    obtain ⟨ws_30, f1_31⟩ := u
    obtain ⟨hT, hp_32⟩ := hw_29
    have hp_32 : rf_d (f1_15 8) f1_15 f1_31 ∧ rf_R G p1.toInt f1_31 ∧ rf_sm f1_15 f1_31 ∧ 0 ≤ r_28.toInt ∧ r_28.toInt < (G 10).toInt := hp_32
    obtain ⟨hd_33, hq_34⟩ := hp_32
    have hD_35 := rf_dt hD_19 hd_33
    have hR_36 := hq_34.1
    have pg_38 := (rf_smof (rf_c6 hR_20 hc) hq_34.2.1 (k := 0) (by decide)).trans pg_22
    have hP : va_P D vwCl ([(rf_MO mo mw ma mf m0 m1 mu mv u0 u1 iz th mb mn mpt mbg mwr mwk mlf men), (rf_RW ct 0 mw 958 f1_31)] ++ ws_30) H := hP
    have hD : va_D A ([(rf_MO mo mw ma mf m0 m1 mu mv u0 u1 iz th mb mn mpt mbg mwr mwk mlf men), (rf_RW ct 0 mw 958 f1_31)] ++ ws_30) := hD
    refine ty_kv (wr := []) (wc := ([(rf_MO mo mw ma mf m0 m1 mu mv u0 u1 iz th mb mn mpt mbg mwr mwk mlf men), (rf_RW ct 0 mw 958 f1_31)] ++ ws_30)) (va_runV (As := [.int p1, .int r_28]) (rest := []) ⟨hx, hb, hml, hown, hts⟩ (m_X11_startsOn l D ct S ws_30 ph xx mo mw ma mf m0 m1 mu mv u0 u1 iz mb th mn mpt mbg mwr mwk mlf men f1_31 G p1.toInt p1 r_28 _ hT h_mu h_mv h_u0 h_u1 hph hy1 hy11 hR_36 hc (Or.inr rfl) hq_34.2.2) (cm_V 2 hts kc_X11_startsOn ki_RX11 kl_RX11_288 kv_X11_startsOn kx_X11_startsOn kd_X11_startsOn ⟨Nat.le_of_ble_eq_true rfl, Nat.le_of_ble_eq_true rfl⟩) (ty_preE (wr := []) (wc := ([(rf_MO mo mw ma mf m0 m1 mu mv u0 u1 iz th mb mn mpt mbg mwr mwk mlf men), (rf_RW ct 0 mw 958 f1_31)] ++ ws_30)) (ci := 11) (q0 := 0) hP hK hD hS hA hX rfl rfl) rfl rfl hl.1 rfl (lv_room (Nat.le_of_ble_eq_true rfl)) dX11_comesToEnd_31 ⟨Nat.le_of_ble_eq_true rfl, Nat.le_of_ble_eq_true rfl⟩) hP hD hS hA (fun u H locs hw_40 hP hD hS => ?_)
    obtain ⟨ws_41, f1_42⟩ := u
    obtain ⟨hT, hp_43⟩ := hw_40
    have hp_43 : rf_d (f1_31 8) f1_31 f1_42 ∧ rf_R G (-1) f1_42 := hp_43
    obtain ⟨hd_44, hq_45⟩ := hp_43
    have hD_46 := rf_dt hD_35 hd_44
    have hR_47 := hq_45
    have hP : va_P D vwCl ([(rf_MO mo mw ma mf m0 m1 mu mv u0 u1 iz th mb mn mpt mbg mwr mwk mlf men), (rf_RW ct 0 mw 958 f1_42)] ++ ws_41) H := hP
    have hD : va_D A ([(rf_MO mo mw ma mf m0 m1 mu mv u0 u1 iz th mb mn mpt mbg mwr mwk mlf men), (rf_RW ct 0 mw 958 f1_42)] ++ ws_41) := hD
    exact W.vret hx hb hr (fun t ht hW => ⟨⟨(ws_41, f1_42), rfl, ⟨hT, ⟨hD_46, hR_47⟩⟩, by rw [ht]; exact hP, by rw [hAe]; exact hD⟩, hS.F ht⟩) hS.2.2 dX11_comesToEnd_34
theorem dX11_comes_32 : decode cX11_comes 32 = .ok (.aload_n 0, 1) := by decide +kernel
theorem dX11_comes_33 : decode cX11_comes 33 = .ok (.iload_n 1, 1) := by decide +kernel
theorem dX11_comes_34 : decode cX11_comes 34 = .ok (.bipush 24, 2) := by decide +kernel
theorem dX11_comes_36 : decode cX11_comes 36 = .ok (.iload 4, 2) := by decide +kernel
theorem dX11_comes_38 : decode cX11_comes 38 = .ok (.iadd, 1) := by decide +kernel
theorem dX11_comes_39 : decode cX11_comes 39 = .ok (.invokevirtual 209, 3) := by decide +kernel
theorem dX11_comes_42 : decode cX11_comes 42 = .ok (.aload_n 0, 1) := by decide +kernel
theorem dX11_comes_43 : decode cX11_comes 43 = .ok (.iload_n 3, 1) := by decide +kernel
theorem dX11_comes_44 : decode cX11_comes 44 = .ok (.iload 4, 2) := by decide +kernel
theorem dX11_comes_46 : decode cX11_comes 46 = .ok (.iconst 2, 1) := by decide +kernel
theorem dX11_comes_47 : decode cX11_comes 47 = .ok (.invokevirtual 218, 3) := by decide +kernel
theorem dX11_comes_50 : decode cX11_comes 50 = .ok (.if_icmp .ge 38, 3) := by decide +kernel
theorem dX11_comes_53 : decode cX11_comes 53 = .ok (.aload_n 0, 1) := by decide +kernel
theorem dX11_comes_54 : decode cX11_comes 54 = .ok (.iload_n 1, 1) := by decide +kernel
theorem dX11_comes_55 : decode cX11_comes 55 = .ok (.bipush 24, 2) := by decide +kernel
theorem dX11_comes_57 : decode cX11_comes 57 = .ok (.iload 4, 2) := by decide +kernel
theorem dX11_comes_59 : decode cX11_comes 59 = .ok (.iadd, 1) := by decide +kernel
theorem dX11_comes_60 : decode cX11_comes 60 = .ok (.aload_n 0, 1) := by decide +kernel
theorem dX11_comes_61 : decode cX11_comes 61 = .ok (.iload_n 1, 1) := by decide +kernel
theorem dX11_comes_62 : decode cX11_comes 62 = .ok (.bipush 24, 2) := by decide +kernel
theorem dX11_comes_64 : decode cX11_comes 64 = .ok (.iload 4, 2) := by decide +kernel
theorem dX11_comes_66 : decode cX11_comes 66 = .ok (.iadd, 1) := by decide +kernel
theorem dX11_comes_67 : decode cX11_comes 67 = .ok (.invokevirtual 209, 3) := by decide +kernel
theorem dX11_comes_70 : decode cX11_comes 70 = .ok (.iconst 1, 1) := by decide +kernel
theorem dX11_comes_71 : decode cX11_comes 71 = .ok (.iadd, 1) := by decide +kernel
theorem dX11_comes_72 : decode cX11_comes 72 = .ok (.invokevirtual 234, 3) := by decide +kernel
theorem dX11_comes_75 : decode cX11_comes 75 = .ok (.aload_n 0, 1) := by decide +kernel
theorem dX11_comes_76 : decode cX11_comes 76 = .ok (.iload_n 3, 1) := by decide +kernel
theorem dX11_comes_77 : decode cX11_comes 77 = .ok (.iload 4, 2) := by decide +kernel
theorem dX11_comes_79 : decode cX11_comes 79 = .ok (.iconst 1, 1) := by decide +kernel
theorem dX11_comes_80 : decode cX11_comes 80 = .ok (.invokevirtual 218, 3) := by decide +kernel
theorem dX11_comes_83 : decode cX11_comes 83 = .ok (.istore 4, 2) := by decide +kernel
theorem dX11_comes_85 : decode cX11_comes 85 = .ok (.goto (-75), 3) := by decide +kernel
theorem dX11_comes_88 : decode cX11_comes 88 = .ok (.aload_n 0, 1) := by decide +kernel
theorem dX11_comes_89 : decode cX11_comes 89 = .ok (.iload_n 1, 1) := by decide +kernel
theorem dX11_comes_90 : decode cX11_comes 90 = .ok (.bipush 24, 2) := by decide +kernel
theorem dX11_comes_92 : decode cX11_comes 92 = .ok (.iload 4, 2) := by decide +kernel
theorem dX11_comes_94 : decode cX11_comes 94 = .ok (.iadd, 1) := by decide +kernel
theorem dX11_comes_95 : decode cX11_comes 95 = .ok (.iconst 0, 1) := by decide +kernel
theorem dX11_comes_96 : decode cX11_comes 96 = .ok (.invokevirtual 234, 3) := by decide +kernel
theorem dX11_comes_99 : decode cX11_comes 99 = .ok (.iinc 4 1, 3) := by decide +kernel
theorem dX11_comes_102 : decode cX11_comes 102 = .ok (.goto (-92), 3) := by decide +kernel
theorem dX11_comes_115 : decode cX11_comes 115 = .ok (.iconst 1, 1) := by decide +kernel
theorem dX11_comes_116 : decode cX11_comes 116 = .ok (.goto 4, 3) := by decide +kernel
theorem dX11_comes_130 : decode cX11_comes 130 = .ok (.iconst (-1), 1) := by decide +kernel
theorem dX11_comes_131 : decode cX11_comes 131 = .ok (.goto 5, 3) := by decide +kernel
theorem dX11_comes_164 : decode cX11_comes 164 = .ok (.aload_n 0, 1) := by decide +kernel
theorem dX11_comes_165 : decode cX11_comes 165 = .ok (.iload_n 1, 1) := by decide +kernel
theorem dX11_comes_166 : decode cX11_comes 166 = .ok (.invokevirtual 279, 3) := by decide +kernel
set_option maxRecDepth 100000 in
set_option maxHeartbeats 4000000 in
theorem m_comes (l : Launch) (D : va_G) (ct : Nat → ClassId) (S : ty_S) (ws : va_W) (ph : va_W → Prop) (xx : Nat → Nat → Nat → Prop) (mo : Nat) (mw : Nat) (ma : Nat) (mf : Nat) (m0 : Nat) (m1 : Nat) (mu : Nat) (mv : Nat) (u0 : Nat) (u1 : Nat) (iz : Nat) (mb : Nat) (th : Int32) (mn : Int32) (mpt : Int32) (mbg : Int32) (mwr : Int32) (mwk : Int32) (mlf : Int32) (men : Int32) (f : Nat → Int32) (G : Nat → Int32) (cx : Int) (p1 : Int32) (p2 : Int32) (sz : Nat) (hT : ty_V ct S ph ws) (h_mu : S mu = some (.inr (1, 42))) (h_mv : S mv = some (.inr (1, 42))) (h_u0 : S u0 = some (.inr (1, 42))) (h_u1 : S u1 = some (.inr (1, 42))) (hph : ty_C ph xx) (hy1 : ty_y1 xx) (hy11 : ty_y0 xx 11) (hR : rf_R G cx f) (hc : 0 ≤ p1.toInt ∧ p1.toInt < (G 9).toInt) (hcx : cx = -1 ∨ cx = p1.toInt) (hp : 0 ≤ (rf_of f p1 1).toInt ∧ (rf_of f p1 1).toInt < (G 10).toInt) (hf9 : 0 ≤ p2.toInt ∧ p2.toInt ≤ (G (96 + 37 * (rf_of f p1 1).toInt.toNat)).toInt) : Met l yX11_comes (ws_ yX11_comes cX11_comes 6 none) ({ frames := 4, cells := 0, slots := 0, locals := 93 } : Room) (va_Pc [.ref mo, .int p1, .int p2] (cmP D ct sz ([(rf_MO mo mw ma mf m0 m1 mu mv u0 u1 iz th mb mn mpt mbg mwr mwk mlf men), (rf_RW ct 0 mw 958 f)] ++ ws))) (va_Qv (fun (u : va_W × (Nat → Int32)) => match u with | (u9, f1) => ty_V ct S ph u9 ∧ rf_d (f 8) f f1 ∧ rf_R G (-1) f1) (cmB D ([(rf_MO mo mw ma mf m0 m1 mu mv u0 u1 iz th mb mn mpt mbg mwr mwk mlf men), (rf_RW ct 0 mw 958 f)] ++ ws) sz (fun (u : va_W × (Nat → Int32)) => match u with | (u9, f1) => ([(rf_MO mo mw ma mf m0 m1 mu mv u0 u1 iz th mb mn mpt mbg mwr mwk mlf men), (rf_RW ct 0 mw 958 f1)] ++ u9))) (va_A ([(rf_MO mo mw ma mf m0 m1 mu mv u0 u1 iz th mb mn mpt mbg mwr mwk mlf men), (rf_RW ct 0 mw 958 f)] ++ ws) sz)) 0 0 (va_A ([(rf_MO mo mw ma mf m0 m1 mu mv u0 u1 iz th mb mn mpt mbg mwr mwk mlf men), (rf_RW ct 0 mw 958 f)] ++ ws) sz) := by
  refine Met.ofW (cc := cX11_comes) (maxL := 6) (ret := none) (by decide) rfl ?_
  intro p e s m args below meth c s₁ B hml hv
  obtain ⟨rfl, hsz, hP, hK, hD0, hX⟩ := hv
  have hx := B.exec
  have hb := B.bytes
  have hr := B.returns
  have hts := ws_all (atoms_spec (ws := ws_ yX11_comes cX11_comes 6 none) B.pre)
  have hown : s.vm.findClass RX11 = some m.cls := findClass_of_methodNamed B.named
  have hlocks := B.notSynchronized
  subst hsz
  have hD := hD0.self (sz := s.heap.size)
  generalize hAe : va_A ([(rf_MO mo mw ma mf m0 m1 mu mv u0 u1 iz th mb mn mpt mbg mwr mwk mlf men), (rf_RW ct 0 mw 958 f)] ++ ws) s.heap.size = A at hD hX ⊢
  have hA : ∀ q : Nat, s.heap.size ≤ q → A q := fun q h => by rw [← hAe]; exact Or.inr h
  have hS : va_S A s.heap s.heap [] := va_S.rf
  have hl := lv_entry ([.ref mo, .int p1, .int p2]) (n := 6) (Nat.le_of_ble_eq_true rfl)
  rw [lg_entry_eq]
  generalize (lg_sl ([.ref mo, .int p1, .int p2]) ++ List.replicate (6 - (lg_sl ([.ref mo, .int p1, .int p2])).length) Slot.unset).toArray = ls at hl ⊢
  have hl : lv_has ls 6 [(0, .ref mo), (1, .int p1), (2, .int p2)] := hl
  refine lv_aload_n hx hb dX11_comes_0 rfl (lv_at hl 0 rfl) ?_
  refine lv_iload_n hx hb dX11_comes_1 rfl (lv_at hl 1 rfl) ?_
  refine lv_iconst (v := 1) hx hb dX11_comes_2 (by decide) ?_
  refine ty_ki (wr := []) (wc := ([(rf_MO mo mw ma mf m0 m1 mu mv u0 u1 iz th mb mn mpt mbg mwr mwk mlf men), (rf_RW ct 0 mw 958 f)] ++ ws)) (va_runV (As := [.int p1, .int 1]) (rest := []) ⟨hx, hb, hml, hown, hts⟩ (m_of_1 l D ct S ws ph xx mo mw ma mf m0 m1 mu mv u0 u1 iz mb th mn mpt mbg mwr mwk mlf men f G cx p1 _ hT h_mu h_mv h_u0 h_u1 hph hy1 hR hc) (cm_V 2 hts kc_X11_of ki_RX11 kl_RX11_209 kv_X11_of kx_X11_of kd_X11_of ⟨Nat.le_of_ble_eq_true rfl, Nat.le_of_ble_eq_true rfl⟩) (ty_preE (wr := []) (wc := ([(rf_MO mo mw ma mf m0 m1 mu mv u0 u1 iz th mb mn mpt mbg mwr mwk mlf men), (rf_RW ct 0 mw 958 f)] ++ ws)) (ci := 11) (q0 := 0) hP hK hD hS hA hX rfl rfl) rfl rfl hl.1 rfl (lv_room (Nat.le_of_ble_eq_true rfl)) dX11_comes_3 ⟨Nat.le_of_ble_eq_true rfl, Nat.le_of_ble_eq_true rfl⟩) hP hD hS hA (fun r_1 u H locs hw_2 hP hD hS => ?_)
  obtain ⟨ws_3, rfl⟩ : ∃ z, z = u := ⟨_, rfl⟩
  obtain ⟨hT, rfl⟩ := hw_2
  have hP : va_P D vwCl ([(rf_MO mo mw ma mf m0 m1 mu mv u0 u1 iz th mb mn mpt mbg mwr mwk mlf men), (rf_RW ct 0 mw 958 f)] ++ ws_3) H := hP
  have hD : va_D A ([(rf_MO mo mw ma mf m0 m1 mu mv u0 u1 iz th mb mn mpt mbg mwr mwk mlf men), (rf_RW ct 0 mw 958 f)] ++ ws_3) := hD
  refine lv_istore_n (lv' := [(3, .int (rf_of f p1 1)), (0, .ref mo), (1, .int p1), (2, .int p2)]) hx hb dX11_comes_6 rfl hl (by decide) rfl (fun ls hl => ?_)
  have hpn : ((((rf_of f p1 1).toInt.toNat : Nat)) : Int) < (G 10).toInt := by omega
  refine lv_iload_n hx hb dX11_comes_7 rfl (lv_at hl 3 rfl) ?_
  refine lv_istore (lv' := [(4, .int p2), (3, .int (rf_of f p1 1)), (0, .ref mo), (1, .int p1), (2, .int p2)]) hx hb dX11_comes_8 hl (by decide) rfl (fun ls hl => ?_)
  refine ty_loop (I := fun μ H locs ls => ∃ (ws : va_W) (y_4 : Int32) (f_5 : Nat → Int32), μ = rf_M G (rf_of f p1 1).toInt.toNat p1.toInt.toNat f_5 y_4 ∧ ty_V ct S ph ws ∧ va_P D vwCl ([(rf_MO mo mw ma mf m0 m1 mu mv u0 u1 iz th mb mn mpt mbg mwr mwk mlf men), (rf_RW ct 0 mw 958 f_5)] ++ ws) H ∧ va_D A ([(rf_MO mo mw ma mf m0 m1 mu mv u0 u1 iz th mb mn mpt mbg mwr mwk mlf men), (rf_RW ct 0 mw 958 f_5)] ++ ws) ∧ va_S A s.heap H locs ∧ lv_has ls 6 [(0, .ref mo), (1, .int p1), (2, .int p2), (3, .int (rf_of f p1 1)), (4, .int y_4)] ∧ rf_R G cx f_5 ∧ rf_sm f f_5 ∧ rf_d (f 8) f f_5 ∧ 0 ≤ y_4.toInt ∧ y_4.toInt ≤ (G (96 + 37 * (rf_of f p1 1).toInt.toNat)).toInt) ⟨_, ws_3, p2, f, rfl, hT, hP, hD, hS, (lv_sub hl [2, 3, 4, 1, 0] rfl), hR, (rf_smr f), (rf_dr f), hf9⟩ (fun μ H locs ls hI ih_10 => ?_)
  obtain ⟨ws, y_4, f_5, rfl, hT, hP, hD, hS, hl, hR_10, hM_10, hD_10, hex_10⟩ := hI
  refine lv_iload hx hb dX11_comes_10 (lv_at hl 4 rfl) ?_
  refine lv_aload_n hx hb dX11_comes_12 rfl (lv_at hl 0 rfl) ?_
  refine lv_iload_n hx hb dX11_comes_13 rfl (lv_at hl 3 rfl) ?_
  refine ty_ki (wr := []) (wc := ([(rf_MO mo mw ma mf m0 m1 mu mv u0 u1 iz th mb mn mpt mbg mwr mwk mlf men), (rf_RW ct 0 mw 958 f_5)] ++ ws)) (va_runV (As := [.int (rf_of f p1 1)]) (rest := [.int y_4]) ⟨hx, hb, hml, hown, hts⟩ (m_X11_stepsOf l D ct S ws ph xx mo mw ma mf m0 m1 mu mv u0 u1 iz mb th mn mpt mbg mwr mwk mlf men f_5 G cx (rf_of f p1 1) _ hT h_mu h_mv h_u0 h_u1 hph hy1 hR_10 (rf_p4 hR_10 hp)) (cm_V 1 hts kc_X11_stepsOf ki_RX11 kl_RX11_276 kv_X11_stepsOf kx_X11_stepsOf kd_X11_stepsOf ⟨Nat.le_of_ble_eq_true rfl, Nat.le_of_ble_eq_true rfl⟩) (ty_preE (wr := []) (wc := ([(rf_MO mo mw ma mf m0 m1 mu mv u0 u1 iz th mb mn mpt mbg mwr mwk mlf men), (rf_RW ct 0 mw 958 f_5)] ++ ws)) (ci := 11) (q0 := 0) hP hK hD hS hA hX rfl rfl) rfl rfl hl.1 rfl (lv_room (Nat.le_of_ble_eq_true rfl)) dX11_comes_14 ⟨Nat.le_of_ble_eq_true rfl, Nat.le_of_ble_eq_true rfl⟩) hP hD hS hA (fun r_6 u H locs hw_7 hP hD hS => ?_)
  obtain ⟨ws_8, rfl⟩ : ∃ z, z = u := ⟨_, rfl⟩
  obtain ⟨hT, rfl⟩ := hw_7
  have hP : va_P D vwCl ([(rf_MO mo mw ma mf m0 m1 mu mv u0 u1 iz th mb mn mpt mbg mwr mwk mlf men), (rf_RW ct 0 mw 958 f_5)] ++ ws_8) H := hP
  have hD : va_D A ([(rf_MO mo mw ma mf m0 m1 mu mv u0 u1 iz th mb mn mpt mbg mwr mwk mlf men), (rf_RW ct 0 mw 958 f_5)] ++ ws_8) := hD
  refine lv_icmp_ge (tgt := 105) hx hb dX11_comes_17 (by decide) (fun hc_9 => ?_) (fun hc_9 => ?_)
  · refine lv_iload hx hb dX11_comes_105 (lv_at hl 4 rfl) ?_
    refine lv_aload_n hx hb dX11_comes_107 rfl (lv_at hl 0 rfl) ?_
    refine lv_iload_n hx hb dX11_comes_108 rfl (lv_at hl 3 rfl) ?_
    refine ty_ki (wr := []) (wc := ([(rf_MO mo mw ma mf m0 m1 mu mv u0 u1 iz th mb mn mpt mbg mwr mwk mlf men), (rf_RW ct 0 mw 958 f_5)] ++ ws_8)) (va_runV (As := [.int (rf_of f p1 1)]) (rest := [.int y_4]) ⟨hx, hb, hml, hown, hts⟩ (m_X11_stepsOf l D ct S ws_8 ph xx mo mw ma mf m0 m1 mu mv u0 u1 iz mb th mn mpt mbg mwr mwk mlf men f_5 G cx (rf_of f p1 1) _ hT h_mu h_mv h_u0 h_u1 hph hy1 hR_10 (rf_p4 hR_10 hp)) (cm_V 1 hts kc_X11_stepsOf ki_RX11 kl_RX11_276 kv_X11_stepsOf kx_X11_stepsOf kd_X11_stepsOf ⟨Nat.le_of_ble_eq_true rfl, Nat.le_of_ble_eq_true rfl⟩) (ty_preE (wr := []) (wc := ([(rf_MO mo mw ma mf m0 m1 mu mv u0 u1 iz th mb mn mpt mbg mwr mwk mlf men), (rf_RW ct 0 mw 958 f_5)] ++ ws_8)) (ci := 11) (q0 := 0) hP hK hD hS hA hX rfl rfl) rfl rfl hl.1 rfl (lv_room (Nat.le_of_ble_eq_true rfl)) dX11_comes_109 ⟨Nat.le_of_ble_eq_true rfl, Nat.le_of_ble_eq_true rfl⟩) hP hD hS hA (fun r_10 u H locs hw_11 hP hD hS => ?_)
    obtain ⟨ws_12, rfl⟩ : ∃ z, z = u := ⟨_, rfl⟩
    obtain ⟨hT, rfl⟩ := hw_11
    have hP : va_P D vwCl ([(rf_MO mo mw ma mf m0 m1 mu mv u0 u1 iz th mb mn mpt mbg mwr mwk mlf men), (rf_RW ct 0 mw 958 f_5)] ++ ws_12) H := hP
    have hD : va_D A ([(rf_MO mo mw ma mf m0 m1 mu mv u0 u1 iz th mb mn mpt mbg mwr mwk mlf men), (rf_RW ct 0 mw 958 f_5)] ++ ws_12) := hD
    refine lv_icmp_ne (tgt := 119) hx hb dX11_comes_112 (by decide) (fun hc_13 => ?_) (fun hc_13 => ?_)
    · refine lv_iconst (v := 0) hx hb dX11_comes_119 (by decide) ?_
      refine lv_istore (lv' := [(5, .int 0), (0, .ref mo), (1, .int p1), (2, .int p2), (3, .int (rf_of f p1 1)), (4, .int y_4)]) hx hb dX11_comes_120 hl (by decide) rfl (fun ls hl => ?_)
      refine lv_aload_n hx hb dX11_comes_122 rfl (lv_at hl 1 rfl) ?_
      refine lv_iload_n hx hb dX11_comes_123 rfl (lv_at hl 2 rfl) ?_
      refine lv_iconst (v := 2) hx hb dX11_comes_124 (by decide) ?_
      refine lv_iload hx hb dX11_comes_125 (lv_at hl 0 rfl) ?_
      refine lv_if_eq (tgt := 134) hx hb dX11_comes_127 (by decide) (fun _ => ?_) (fun hc => absurd (by decide) hc)
      refine lv_iload hx hb dX11_comes_134 (lv_at hl 5 rfl) ?_
      refine ty_kv (wr := []) (wc := ([(rf_MO mo mw ma mf m0 m1 mu mv u0 u1 iz th mb mn mpt mbg mwr mwk mlf men), (rf_RW ct 0 mw 958 f_5)] ++ ws_12)) (va_runV (As := [.int p1, .int 2, .int y_4]) (rest := []) ⟨hx, hb, hml, hown, hts⟩ (m_put_2 l D ct S ws_12 ph xx mo mw ma mf m0 m1 mu mv u0 u1 iz mb th mn mpt mbg mwr mwk mlf men f_5 G cx p1 y_4 _ hT h_mu h_mv h_u0 h_u1 hph hy1 hR_10 hc hcx (rf_step2 hex_10.1 (by have := rf_nes hc_13 (by rw [(rf_ps hR_10 hpn).2.1]; exact hex_10.2); have := (rf_ps hR_10 hpn).1.2; have e9 := congrArg Int32.toInt (rf_ps hR_10 hpn).2.1; omega))) (cm_V 3 hts kc_X11_put ki_RX11 kl_RX11_234 kv_X11_put kx_X11_put kd_X11_put ⟨Nat.le_of_ble_eq_true rfl, Nat.le_of_ble_eq_true rfl⟩) (ty_preE (wr := []) (wc := ([(rf_MO mo mw ma mf m0 m1 mu mv u0 u1 iz th mb mn mpt mbg mwr mwk mlf men), (rf_RW ct 0 mw 958 f_5)] ++ ws_12)) (ci := 11) (q0 := 0) hP hK hD hS hA hX rfl rfl) rfl rfl hl.1 rfl (lv_room (Nat.le_of_ble_eq_true rfl)) dX11_comes_136 ⟨Nat.le_of_ble_eq_true rfl, Nat.le_of_ble_eq_true rfl⟩) hP hD hS hA (fun u H locs hw_15 hP hD hS => ?_)
      obtain ⟨ws_16, f1_17⟩ := u
      obtain ⟨hT, hp_18⟩ := hw_15
      have hp_18 : rf_d (f_5 8) f_5 f1_17 ∧ rf_R G p1.toInt f1_17 ∧ f1_17 = upd f_5 (244 + 54 * p1.toInt.toNat + 2) y_4 := hp_18
      obtain ⟨hd_19, hq_20⟩ := hp_18
      have hD_21 := rf_dt hD_10 hd_19
      have hR_22 := hq_20.1
      have hP : va_P D vwCl ([(rf_MO mo mw ma mf m0 m1 mu mv u0 u1 iz th mb mn mpt mbg mwr mwk mlf men), (rf_RW ct 0 mw 958 f1_17)] ++ ws_16) H := hP
      have hD : va_D A ([(rf_MO mo mw ma mf m0 m1 mu mv u0 u1 iz th mb mn mpt mbg mwr mwk mlf men), (rf_RW ct 0 mw 958 f1_17)] ++ ws_16) := hD
      refine lv_aload_n hx hb dX11_comes_139 rfl (lv_at hl 1 rfl) ?_
      refine lv_iload_n hx hb dX11_comes_140 rfl (lv_at hl 2 rfl) ?_
      refine lv_iconst (v := 3) hx hb dX11_comes_141 (by decide) ?_
      refine lv_iconst (v := 0) hx hb dX11_comes_142 (by decide) ?_
      refine ty_kv (wr := []) (wc := ([(rf_MO mo mw ma mf m0 m1 mu mv u0 u1 iz th mb mn mpt mbg mwr mwk mlf men), (rf_RW ct 0 mw 958 f1_17)] ++ ws_16)) (va_runV (As := [.int p1, .int 3, .int 0]) (rest := []) ⟨hx, hb, hml, hown, hts⟩ (m_put_3 l D ct S ws_16 ph xx mo mw ma mf m0 m1 mu mv u0 u1 iz mb th mn mpt mbg mwr mwk mlf men f1_17 G p1.toInt p1 (0 : Int32) _ hT h_mu h_mv h_u0 h_u1 hph hy1 hR_22 hc) (cm_V 3 hts kc_X11_put ki_RX11 kl_RX11_234 kv_X11_put kx_X11_put kd_X11_put ⟨Nat.le_of_ble_eq_true rfl, Nat.le_of_ble_eq_true rfl⟩) (ty_preE (wr := []) (wc := ([(rf_MO mo mw ma mf m0 m1 mu mv u0 u1 iz th mb mn mpt mbg mwr mwk mlf men), (rf_RW ct 0 mw 958 f1_17)] ++ ws_16)) (ci := 11) (q0 := 0) hP hK hD hS hA hX rfl rfl) rfl rfl hl.1 rfl (lv_room (Nat.le_of_ble_eq_true rfl)) dX11_comes_143 ⟨Nat.le_of_ble_eq_true rfl, Nat.le_of_ble_eq_true rfl⟩) hP hD hS hA (fun u H locs hw_25 hP hD hS => ?_)
      obtain ⟨ws_26, f1_27⟩ := u
      obtain ⟨hT, hp_28⟩ := hw_25
      have hp_28 : rf_d (f1_17 8) f1_17 f1_27 ∧ rf_R G p1.toInt f1_27 ∧ rf_sm f1_17 f1_27 ∧ f1_27 = upd f1_17 (244 + 54 * p1.toInt.toNat + 3) (0 : Int32) := hp_28
      obtain ⟨hd_29, hq_30⟩ := hp_28
      have hD_31 := rf_dt hD_21 hd_29
      have hR_32 := hq_30.1
      have hP : va_P D vwCl ([(rf_MO mo mw ma mf m0 m1 mu mv u0 u1 iz th mb mn mpt mbg mwr mwk mlf men), (rf_RW ct 0 mw 958 f1_27)] ++ ws_26) H := hP
      have hD : va_D A ([(rf_MO mo mw ma mf m0 m1 mu mv u0 u1 iz th mb mn mpt mbg mwr mwk mlf men), (rf_RW ct 0 mw 958 f1_27)] ++ ws_26) := hD
      refine lv_aload_n hx hb dX11_comes_146 rfl (lv_at hl 1 rfl) ?_
      refine lv_iload_n hx hb dX11_comes_147 rfl (lv_at hl 2 rfl) ?_
      refine lv_bipush (v := 6) hx hb dX11_comes_148 (by decide) ?_
      refine lv_aload_n hx hb dX11_comes_150 rfl (lv_at hl 1 rfl) ?_
      refine lv_iload_n hx hb dX11_comes_151 rfl (lv_at hl 2 rfl) ?_
      refine lv_iconst (v := 1) hx hb dX11_comes_152 (by decide) ?_
      have hP : va_P D vwCl ([(rf_RW ct 0 mw 958 f1_27), (rf_MO mo mw ma mf m0 m1 mu mv u0 u1 iz th mb mn mpt mbg mwr mwk mlf men)] ++ ws_26) H := ty_permP hP (ty_ordp (E := [(rf_MO mo mw ma mf m0 m1 mu mv u0 u1 iz th mb mn mpt mbg mwr mwk mlf men), (rf_RW ct 0 mw 958 f1_27)]) (E2 := [(rf_RW ct 0 mw 958 f1_27), (rf_MO mo mw ma mf m0 m1 mu mv u0 u1 iz th mb mn mpt mbg mwr mwk mlf men)]) (n := 2) [1, 0] rfl rfl (by decide))
      have hD : va_D A ([(rf_RW ct 0 mw 958 f1_27), (rf_MO mo mw ma mf m0 m1 mu mv u0 u1 iz th mb mn mpt mbg mwr mwk mlf men)] ++ ws_26) := ty_permD hD (ty_ordp (E := [(rf_MO mo mw ma mf m0 m1 mu mv u0 u1 iz th mb mn mpt mbg mwr mwk mlf men), (rf_RW ct 0 mw 958 f1_27)]) (E2 := [(rf_RW ct 0 mw 958 f1_27), (rf_MO mo mw ma mf m0 m1 mu mv u0 u1 iz th mb mn mpt mbg mwr mwk mlf men)]) (n := 2) [1, 0] rfl rfl (by decide))
      refine ty_kl (wr := [(rf_RW ct 0 mw 958 f1_27)]) (wc := ([(rf_MO mo mw ma mf m0 m1 mu mv u0 u1 iz th mb mn mpt mbg mwr mwk mlf men)] ++ ws_26)) (va_runV (As := [.int p1, .int 1]) (rest := [.int 6, .int p1, .ref mo]) ⟨hx, hb, hml, hown, hts⟩ (m_X11_sum l D ct S ws_26 ph xx mo mw ma mf m0 m1 mu mv u0 u1 iz mb th mn mpt mbg mwr mwk mlf men p1 (1 : Int32) _ hT h_mu h_mv h_u0 h_u1 hph hy1 (rf_c6 hR_32 hc) (by decide)) (cm_V 2 hts kc_X11_sum ki_RX11 kl_RX11_261 kv_X11_sum kx_X11_sum kd_X11_sum ⟨Nat.le_of_ble_eq_true rfl, Nat.le_of_ble_eq_true rfl⟩) (ty_preE (wr := [(rf_RW ct 0 mw 958 f1_27)]) (wc := ([(rf_MO mo mw ma mf m0 m1 mu mv u0 u1 iz th mb mn mpt mbg mwr mwk mlf men)] ++ ws_26)) (ci := 11) (q0 := 1) hP hK hD hS hA hX rfl rfl) rfl rfl hl.1 rfl (lv_room (Nat.le_of_ble_eq_true rfl)) dX11_comes_153 ⟨Nat.le_of_ble_eq_true rfl, Nat.le_of_ble_eq_true rfl⟩) hP hD hS hA (fun r_34 u H locs hw_35 hP hD hS => ?_)
      obtain ⟨ws_36, rfl⟩ : ∃ z, z = u := ⟨_, rfl⟩
      have hT := hw_35
      have hP : va_P D vwCl ([(rf_RW ct 0 mw 958 f1_27), (rf_MO mo mw ma mf m0 m1 mu mv u0 u1 iz th mb mn mpt mbg mwr mwk mlf men)] ++ ws_36) H := hP
      have hD : va_D A ([(rf_RW ct 0 mw 958 f1_27), (rf_MO mo mw ma mf m0 m1 mu mv u0 u1 iz th mb mn mpt mbg mwr mwk mlf men)] ++ ws_36) := hD
      refine ty_kv (wr := [(rf_RW ct 0 mw 958 f1_27)]) (wc := ([(rf_MO mo mw ma mf m0 m1 mu mv u0 u1 iz th mb mn mpt mbg mwr mwk mlf men)] ++ ws_36)) (va_runV (As := [.int p1, .int 6, .long r_34]) (rest := []) ⟨hx, hb, hml, hown, hts⟩ (m_X11_putSum l D ct S ws_36 ph xx mo mw ma mf m0 m1 mu mv u0 u1 iz mb th mn mpt mbg mwr mwk mlf men p1 (6 : Int32) r_34 _ hT h_mu h_mv h_u0 h_u1 hph hy1 hy11 (rf_c6 hR_32 hc) (by decide)) (cm_V 3 hts kc_X11_putSum ki_RX11 kl_RX11_265 kv_X11_putSum kx_X11_putSum kd_X11_putSum ⟨Nat.le_of_ble_eq_true rfl, Nat.le_of_ble_eq_true rfl⟩) (ty_preE (wr := [(rf_RW ct 0 mw 958 f1_27)]) (wc := ([(rf_MO mo mw ma mf m0 m1 mu mv u0 u1 iz th mb mn mpt mbg mwr mwk mlf men)] ++ ws_36)) (ci := 11) (q0 := 1) hP hK hD hS hA hX rfl rfl) rfl rfl hl.1 rfl (lv_room (Nat.le_of_ble_eq_true rfl)) dX11_comes_156 ⟨Nat.le_of_ble_eq_true rfl, Nat.le_of_ble_eq_true rfl⟩) hP hD hS hA (fun u H locs hw_38 hP hD hS => ?_)
      obtain ⟨ws_39, rfl⟩ : ∃ z, z = u := ⟨_, rfl⟩
      have hT := hw_38
      have hP : va_P D vwCl ([(rf_RW ct 0 mw 958 f1_27), (rf_MO mo mw ma mf m0 m1 mu mv u0 u1 iz th mb mn mpt mbg mwr mwk mlf men)] ++ ws_39) H := hP
      have hD : va_D A ([(rf_RW ct 0 mw 958 f1_27), (rf_MO mo mw ma mf m0 m1 mu mv u0 u1 iz th mb mn mpt mbg mwr mwk mlf men)] ++ ws_39) := hD
      refine lv_iload hx hb dX11_comes_159 (lv_at hl 0 rfl) ?_
      refine lv_if_eq (tgt := 169) hx hb dX11_comes_161 (by decide) (fun _ => ?_) (fun hc => absurd (by decide) hc)
      have e1 : rf_of f1_27 p1 1 = rf_of f_5 p1 1 := by rw [hq_30.2.2, rf_ne (by decide), hq_20.2]; exact rf_ne (by decide)
      have e2 : rf_of f1_27 p1 2 = y_4 := by rw [hq_30.2.2, rf_ne (by decide), hq_20.2]; exact rf_eq
      have e0 : rf_of f_5 p1 1 = rf_of f p1 1 := rf_smof (rf_c6 hR hc) hM_10 (by decide)
      have hRf := rf_back9 hc.1 hR_32 (Or.inr rfl) (rf_runok hc.1 (by unfold rf_on; rw [e1, e2, e0]; exact ⟨hp, hex_10.1, by rw [← (rf_ps hR_10 hpn).2.1]; exact rf_nes hc_13 (by rw [(rf_ps hR_10 hpn).2.1]; exact hex_10.2)⟩))
      have hP : va_P D vwCl ([(rf_MO mo mw ma mf m0 m1 mu mv u0 u1 iz th mb mn mpt mbg mwr mwk mlf men), (rf_RW ct 0 mw 958 f1_27)] ++ ws_39) H := ty_permP hP (ty_ordp (E := [(rf_RW ct 0 mw 958 f1_27), (rf_MO mo mw ma mf m0 m1 mu mv u0 u1 iz th mb mn mpt mbg mwr mwk mlf men)]) (E2 := [(rf_MO mo mw ma mf m0 m1 mu mv u0 u1 iz th mb mn mpt mbg mwr mwk mlf men), (rf_RW ct 0 mw 958 f1_27)]) (n := 2) [1, 0] rfl rfl (by decide))
      have hD : va_D A ([(rf_MO mo mw ma mf m0 m1 mu mv u0 u1 iz th mb mn mpt mbg mwr mwk mlf men), (rf_RW ct 0 mw 958 f1_27)] ++ ws_39) := ty_permD hD (ty_ordp (E := [(rf_RW ct 0 mw 958 f1_27), (rf_MO mo mw ma mf m0 m1 mu mv u0 u1 iz th mb mn mpt mbg mwr mwk mlf men)]) (E2 := [(rf_MO mo mw ma mf m0 m1 mu mv u0 u1 iz th mb mn mpt mbg mwr mwk mlf men), (rf_RW ct 0 mw 958 f1_27)]) (n := 2) [1, 0] rfl rfl (by decide))
      exact W.vret hx hb hr (fun t ht hW => ⟨⟨(ws_39, f1_27), rfl, ⟨hT, ⟨hD_31, hRf⟩⟩, by rw [ht]; exact hP, by rw [hAe]; exact hD⟩, hS.F ht⟩) hS.2.2 dX11_comes_169
    · refine lv_iconst (v := 1) hx hb dX11_comes_115 (by decide) ?_
      refine lv_goto (tgt := 120) hx hb dX11_comes_116 (by decide) ?_
      refine lv_istore (lv' := [(5, .int 1), (0, .ref mo), (1, .int p1), (2, .int p2), (3, .int (rf_of f p1 1)), (4, .int y_4)]) hx hb dX11_comes_120 hl (by decide) rfl (fun ls hl => ?_)
      refine lv_aload_n hx hb dX11_comes_122 rfl (lv_at hl 1 rfl) ?_
      refine lv_iload_n hx hb dX11_comes_123 rfl (lv_at hl 2 rfl) ?_
      refine lv_iconst (v := 2) hx hb dX11_comes_124 (by decide) ?_
      refine lv_iload hx hb dX11_comes_125 (lv_at hl 0 rfl) ?_
      refine lv_if_eq (tgt := 134) hx hb dX11_comes_127 (by decide) (fun hc => absurd hc (by decide)) (fun _ => ?_)
      refine lv_iconst (v := (-1)) hx hb dX11_comes_130 (by decide) ?_
      refine lv_goto (tgt := 136) hx hb dX11_comes_131 (by decide) ?_
      refine ty_kv (wr := []) (wc := ([(rf_MO mo mw ma mf m0 m1 mu mv u0 u1 iz th mb mn mpt mbg mwr mwk mlf men), (rf_RW ct 0 mw 958 f_5)] ++ ws_12)) (va_runV (As := [.int p1, .int 2, .int (-1)]) (rest := []) ⟨hx, hb, hml, hown, hts⟩ (m_put_2 l D ct S ws_12 ph xx mo mw ma mf m0 m1 mu mv u0 u1 iz mb th mn mpt mbg mwr mwk mlf men f_5 G cx p1 ((-1) : Int32) _ hT h_mu h_mv h_u0 h_u1 hph hy1 hR_10 hc hcx (fun _ => (show -1 ≤ (-1 : Int32).toInt ∧ (-1 : Int32).toInt ≤ 11 from by decide))) (cm_V 3 hts kc_X11_put ki_RX11 kl_RX11_234 kv_X11_put kx_X11_put kd_X11_put ⟨Nat.le_of_ble_eq_true rfl, Nat.le_of_ble_eq_true rfl⟩) (ty_preE (wr := []) (wc := ([(rf_MO mo mw ma mf m0 m1 mu mv u0 u1 iz th mb mn mpt mbg mwr mwk mlf men), (rf_RW ct 0 mw 958 f_5)] ++ ws_12)) (ci := 11) (q0 := 0) hP hK hD hS hA hX rfl rfl) rfl rfl hl.1 rfl (lv_room (Nat.le_of_ble_eq_true rfl)) dX11_comes_136 ⟨Nat.le_of_ble_eq_true rfl, Nat.le_of_ble_eq_true rfl⟩) hP hD hS hA (fun u H locs hw_41 hP hD hS => ?_)
      obtain ⟨ws_42, f1_43⟩ := u
      obtain ⟨hT, hp_44⟩ := hw_41
      have hp_44 : rf_d (f_5 8) f_5 f1_43 ∧ rf_R G p1.toInt f1_43 ∧ f1_43 = upd f_5 (244 + 54 * p1.toInt.toNat + 2) ((-1) : Int32) := hp_44
      obtain ⟨hd_45, hq_46⟩ := hp_44
      have hD_47 := rf_dt hD_10 hd_45
      have hR_48 := hq_46.1
      have hP : va_P D vwCl ([(rf_MO mo mw ma mf m0 m1 mu mv u0 u1 iz th mb mn mpt mbg mwr mwk mlf men), (rf_RW ct 0 mw 958 f1_43)] ++ ws_42) H := hP
      have hD : va_D A ([(rf_MO mo mw ma mf m0 m1 mu mv u0 u1 iz th mb mn mpt mbg mwr mwk mlf men), (rf_RW ct 0 mw 958 f1_43)] ++ ws_42) := hD
      refine lv_aload_n hx hb dX11_comes_139 rfl (lv_at hl 1 rfl) ?_
      refine lv_iload_n hx hb dX11_comes_140 rfl (lv_at hl 2 rfl) ?_
      refine lv_iconst (v := 3) hx hb dX11_comes_141 (by decide) ?_
      refine lv_iconst (v := 0) hx hb dX11_comes_142 (by decide) ?_
      refine ty_kv (wr := []) (wc := ([(rf_MO mo mw ma mf m0 m1 mu mv u0 u1 iz th mb mn mpt mbg mwr mwk mlf men), (rf_RW ct 0 mw 958 f1_43)] ++ ws_42)) (va_runV (As := [.int p1, .int 3, .int 0]) (rest := []) ⟨hx, hb, hml, hown, hts⟩ (m_put_3 l D ct S ws_42 ph xx mo mw ma mf m0 m1 mu mv u0 u1 iz mb th mn mpt mbg mwr mwk mlf men f1_43 G p1.toInt p1 (0 : Int32) _ hT h_mu h_mv h_u0 h_u1 hph hy1 hR_48 hc) (cm_V 3 hts kc_X11_put ki_RX11 kl_RX11_234 kv_X11_put kx_X11_put kd_X11_put ⟨Nat.le_of_ble_eq_true rfl, Nat.le_of_ble_eq_true rfl⟩) (ty_preE (wr := []) (wc := ([(rf_MO mo mw ma mf m0 m1 mu mv u0 u1 iz th mb mn mpt mbg mwr mwk mlf men), (rf_RW ct 0 mw 958 f1_43)] ++ ws_42)) (ci := 11) (q0 := 0) hP hK hD hS hA hX rfl rfl) rfl rfl hl.1 rfl (lv_room (Nat.le_of_ble_eq_true rfl)) dX11_comes_143 ⟨Nat.le_of_ble_eq_true rfl, Nat.le_of_ble_eq_true rfl⟩) hP hD hS hA (fun u H locs hw_51 hP hD hS => ?_)
      obtain ⟨ws_52, f1_53⟩ := u
      obtain ⟨hT, hp_54⟩ := hw_51
      have hp_54 : rf_d (f1_43 8) f1_43 f1_53 ∧ rf_R G p1.toInt f1_53 ∧ rf_sm f1_43 f1_53 ∧ f1_53 = upd f1_43 (244 + 54 * p1.toInt.toNat + 3) (0 : Int32) := hp_54
      obtain ⟨hd_55, hq_56⟩ := hp_54
      have hD_57 := rf_dt hD_47 hd_55
      have hR_58 := hq_56.1
      have hP : va_P D vwCl ([(rf_MO mo mw ma mf m0 m1 mu mv u0 u1 iz th mb mn mpt mbg mwr mwk mlf men), (rf_RW ct 0 mw 958 f1_53)] ++ ws_52) H := hP
      have hD : va_D A ([(rf_MO mo mw ma mf m0 m1 mu mv u0 u1 iz th mb mn mpt mbg mwr mwk mlf men), (rf_RW ct 0 mw 958 f1_53)] ++ ws_52) := hD
      refine lv_aload_n hx hb dX11_comes_146 rfl (lv_at hl 1 rfl) ?_
      refine lv_iload_n hx hb dX11_comes_147 rfl (lv_at hl 2 rfl) ?_
      refine lv_bipush (v := 6) hx hb dX11_comes_148 (by decide) ?_
      refine lv_aload_n hx hb dX11_comes_150 rfl (lv_at hl 1 rfl) ?_
      refine lv_iload_n hx hb dX11_comes_151 rfl (lv_at hl 2 rfl) ?_
      refine lv_iconst (v := 1) hx hb dX11_comes_152 (by decide) ?_
      have hP : va_P D vwCl ([(rf_RW ct 0 mw 958 f1_53), (rf_MO mo mw ma mf m0 m1 mu mv u0 u1 iz th mb mn mpt mbg mwr mwk mlf men)] ++ ws_52) H := ty_permP hP (ty_ordp (E := [(rf_MO mo mw ma mf m0 m1 mu mv u0 u1 iz th mb mn mpt mbg mwr mwk mlf men), (rf_RW ct 0 mw 958 f1_53)]) (E2 := [(rf_RW ct 0 mw 958 f1_53), (rf_MO mo mw ma mf m0 m1 mu mv u0 u1 iz th mb mn mpt mbg mwr mwk mlf men)]) (n := 2) [1, 0] rfl rfl (by decide))
      have hD : va_D A ([(rf_RW ct 0 mw 958 f1_53), (rf_MO mo mw ma mf m0 m1 mu mv u0 u1 iz th mb mn mpt mbg mwr mwk mlf men)] ++ ws_52) := ty_permD hD (ty_ordp (E := [(rf_MO mo mw ma mf m0 m1 mu mv u0 u1 iz th mb mn mpt mbg mwr mwk mlf men), (rf_RW ct 0 mw 958 f1_53)]) (E2 := [(rf_RW ct 0 mw 958 f1_53), (rf_MO mo mw ma mf m0 m1 mu mv u0 u1 iz th mb mn mpt mbg mwr mwk mlf men)]) (n := 2) [1, 0] rfl rfl (by decide))
      refine ty_kl (wr := [(rf_RW ct 0 mw 958 f1_53)]) (wc := ([(rf_MO mo mw ma mf m0 m1 mu mv u0 u1 iz th mb mn mpt mbg mwr mwk mlf men)] ++ ws_52)) (va_runV (As := [.int p1, .int 1]) (rest := [.int 6, .int p1, .ref mo]) ⟨hx, hb, hml, hown, hts⟩ (m_X11_sum l D ct S ws_52 ph xx mo mw ma mf m0 m1 mu mv u0 u1 iz mb th mn mpt mbg mwr mwk mlf men p1 (1 : Int32) _ hT h_mu h_mv h_u0 h_u1 hph hy1 (rf_c6 hR_58 hc) (by decide)) (cm_V 2 hts kc_X11_sum ki_RX11 kl_RX11_261 kv_X11_sum kx_X11_sum kd_X11_sum ⟨Nat.le_of_ble_eq_true rfl, Nat.le_of_ble_eq_true rfl⟩) (ty_preE (wr := [(rf_RW ct 0 mw 958 f1_53)]) (wc := ([(rf_MO mo mw ma mf m0 m1 mu mv u0 u1 iz th mb mn mpt mbg mwr mwk mlf men)] ++ ws_52)) (ci := 11) (q0 := 1) hP hK hD hS hA hX rfl rfl) rfl rfl hl.1 rfl (lv_room (Nat.le_of_ble_eq_true rfl)) dX11_comes_153 ⟨Nat.le_of_ble_eq_true rfl, Nat.le_of_ble_eq_true rfl⟩) hP hD hS hA (fun r_60 u H locs hw_61 hP hD hS => ?_)
      obtain ⟨ws_62, rfl⟩ : ∃ z, z = u := ⟨_, rfl⟩
      have hT := hw_61
      have hP : va_P D vwCl ([(rf_RW ct 0 mw 958 f1_53), (rf_MO mo mw ma mf m0 m1 mu mv u0 u1 iz th mb mn mpt mbg mwr mwk mlf men)] ++ ws_62) H := hP
      have hD : va_D A ([(rf_RW ct 0 mw 958 f1_53), (rf_MO mo mw ma mf m0 m1 mu mv u0 u1 iz th mb mn mpt mbg mwr mwk mlf men)] ++ ws_62) := hD
      refine ty_kv (wr := [(rf_RW ct 0 mw 958 f1_53)]) (wc := ([(rf_MO mo mw ma mf m0 m1 mu mv u0 u1 iz th mb mn mpt mbg mwr mwk mlf men)] ++ ws_62)) (va_runV (As := [.int p1, .int 6, .long r_60]) (rest := []) ⟨hx, hb, hml, hown, hts⟩ (m_X11_putSum l D ct S ws_62 ph xx mo mw ma mf m0 m1 mu mv u0 u1 iz mb th mn mpt mbg mwr mwk mlf men p1 (6 : Int32) r_60 _ hT h_mu h_mv h_u0 h_u1 hph hy1 hy11 (rf_c6 hR_58 hc) (by decide)) (cm_V 3 hts kc_X11_putSum ki_RX11 kl_RX11_265 kv_X11_putSum kx_X11_putSum kd_X11_putSum ⟨Nat.le_of_ble_eq_true rfl, Nat.le_of_ble_eq_true rfl⟩) (ty_preE (wr := [(rf_RW ct 0 mw 958 f1_53)]) (wc := ([(rf_MO mo mw ma mf m0 m1 mu mv u0 u1 iz th mb mn mpt mbg mwr mwk mlf men)] ++ ws_62)) (ci := 11) (q0 := 1) hP hK hD hS hA hX rfl rfl) rfl rfl hl.1 rfl (lv_room (Nat.le_of_ble_eq_true rfl)) dX11_comes_156 ⟨Nat.le_of_ble_eq_true rfl, Nat.le_of_ble_eq_true rfl⟩) hP hD hS hA (fun u H locs hw_64 hP hD hS => ?_)
      obtain ⟨ws_65, rfl⟩ : ∃ z, z = u := ⟨_, rfl⟩
      have hT := hw_64
      have hP : va_P D vwCl ([(rf_RW ct 0 mw 958 f1_53), (rf_MO mo mw ma mf m0 m1 mu mv u0 u1 iz th mb mn mpt mbg mwr mwk mlf men)] ++ ws_65) H := hP
      have hD : va_D A ([(rf_RW ct 0 mw 958 f1_53), (rf_MO mo mw ma mf m0 m1 mu mv u0 u1 iz th mb mn mpt mbg mwr mwk mlf men)] ++ ws_65) := hD
      refine lv_iload hx hb dX11_comes_159 (lv_at hl 0 rfl) ?_
      refine lv_if_eq (tgt := 169) hx hb dX11_comes_161 (by decide) (fun hc => absurd hc (by decide)) (fun _ => ?_)
      refine lv_aload_n hx hb dX11_comes_164 rfl (lv_at hl 1 rfl) ?_
      refine lv_iload_n hx hb dX11_comes_165 rfl (lv_at hl 2 rfl) ?_
      have hP : va_P D vwCl ([(rf_MO mo mw ma mf m0 m1 mu mv u0 u1 iz th mb mn mpt mbg mwr mwk mlf men), (rf_RW ct 0 mw 958 f1_53)] ++ ws_65) H := ty_permP hP (ty_ordp (E := [(rf_RW ct 0 mw 958 f1_53), (rf_MO mo mw ma mf m0 m1 mu mv u0 u1 iz th mb mn mpt mbg mwr mwk mlf men)]) (E2 := [(rf_MO mo mw ma mf m0 m1 mu mv u0 u1 iz th mb mn mpt mbg mwr mwk mlf men), (rf_RW ct 0 mw 958 f1_53)]) (n := 2) [1, 0] rfl rfl (by decide))
      have hD : va_D A ([(rf_MO mo mw ma mf m0 m1 mu mv u0 u1 iz th mb mn mpt mbg mwr mwk mlf men), (rf_RW ct 0 mw 958 f1_53)] ++ ws_65) := ty_permD hD (ty_ordp (E := [(rf_RW ct 0 mw 958 f1_53), (rf_MO mo mw ma mf m0 m1 mu mv u0 u1 iz th mb mn mpt mbg mwr mwk mlf men)]) (E2 := [(rf_MO mo mw ma mf m0 m1 mu mv u0 u1 iz th mb mn mpt mbg mwr mwk mlf men), (rf_RW ct 0 mw 958 f1_53)]) (n := 2) [1, 0] rfl rfl (by decide))
      refine ty_kv (wr := []) (wc := ([(rf_MO mo mw ma mf m0 m1 mu mv u0 u1 iz th mb mn mpt mbg mwr mwk mlf men), (rf_RW ct 0 mw 958 f1_53)] ++ ws_65)) (va_runV (As := [.int p1]) (rest := []) ⟨hx, hb, hml, hown, hts⟩ (m_X11_comesToEnd l D ct S ws_65 ph xx mo mw ma mf m0 m1 mu mv u0 u1 iz mb th mn mpt mbg mwr mwk mlf men f1_53 G p1.toInt p1 _ hT h_mu h_mv h_u0 h_u1 hph hy1 hy11 hR_58 hc (Or.inr rfl)) (cm_V 1 hts kc_X11_comesToEnd ki_RX11 kl_RX11_279 kv_X11_comesToEnd kx_X11_comesToEnd kd_X11_comesToEnd ⟨Nat.le_of_ble_eq_true rfl, Nat.le_of_ble_eq_true rfl⟩) (ty_preE (wr := []) (wc := ([(rf_MO mo mw ma mf m0 m1 mu mv u0 u1 iz th mb mn mpt mbg mwr mwk mlf men), (rf_RW ct 0 mw 958 f1_53)] ++ ws_65)) (ci := 11) (q0 := 0) hP hK hD hS hA hX rfl rfl) rfl rfl hl.1 rfl (lv_room (Nat.le_of_ble_eq_true rfl)) dX11_comes_166 ⟨Nat.le_of_ble_eq_true rfl, Nat.le_of_ble_eq_true rfl⟩) hP hD hS hA (fun u H locs hw_67 hP hD hS => ?_)
      obtain ⟨ws_68, f1_69⟩ := u
      obtain ⟨hT, hp_70⟩ := hw_67
      have hp_70 : rf_d (f1_53 8) f1_53 f1_69 ∧ rf_R G (-1) f1_69 := hp_70
      obtain ⟨hd_71, hq_72⟩ := hp_70
      have hD_73 := rf_dt hD_57 hd_71
      have hR_74 := hq_72
      have hP : va_P D vwCl ([(rf_MO mo mw ma mf m0 m1 mu mv u0 u1 iz th mb mn mpt mbg mwr mwk mlf men), (rf_RW ct 0 mw 958 f1_69)] ++ ws_68) H := hP
      have hD : va_D A ([(rf_MO mo mw ma mf m0 m1 mu mv u0 u1 iz th mb mn mpt mbg mwr mwk mlf men), (rf_RW ct 0 mw 958 f1_69)] ++ ws_68) := hD
      exact W.vret hx hb hr (fun t ht hW => ⟨⟨(ws_68, f1_69), rfl, ⟨hT, ⟨hD_73, hR_74⟩⟩, by rw [ht]; exact hP, by rw [hAe]; exact hD⟩, hS.F ht⟩) hS.2.2 dX11_comes_169
  · refine lv_aload_n hx hb dX11_comes_20 rfl (lv_at hl 0 rfl) ?_
    refine lv_iload_n hx hb dX11_comes_21 rfl (lv_at hl 3 rfl) ?_
    refine lv_iload hx hb dX11_comes_22 (lv_at hl 4 rfl) ?_
    refine lv_iconst (v := 0) hx hb dX11_comes_24 (by decide) ?_
    refine ty_ki (wr := []) (wc := ([(rf_MO mo mw ma mf m0 m1 mu mv u0 u1 iz th mb mn mpt mbg mwr mwk mlf men), (rf_RW ct 0 mw 958 f_5)] ++ ws_8)) (va_runV (As := [.int (rf_of f p1 1), .int y_4, .int 0]) (rest := []) ⟨hx, hb, hml, hown, hts⟩ (m_stepOf_0 l D ct S ws_8 ph xx mo mw ma mf m0 m1 mu mv u0 u1 iz mb th mn mpt mbg mwr mwk mlf men f_5 G cx (rf_of f p1 1) y_4 _ hT h_mu h_mv h_u0 h_u1 hph hy1 hR_10 (rf_p4 hR_10 hp) (by have := (show 0 ≤ y_4.toInt ∧ y_4.toInt < (G (96 + 37 * (rf_of f p1 1).toInt.toNat)).toInt from ⟨hex_10.1, by rw [← (rf_ps hR_10 hpn).2.1]; exact rf_ylt rfl hc_9⟩); have := (show 0 ≤ y_4.toInt ∧ y_4.toInt ≤ 11 from by have := (rf_ps hR_10 hpn).1.2; have := (show 0 ≤ y_4.toInt ∧ y_4.toInt < (G (96 + 37 * (rf_of f p1 1).toInt.toNat)).toInt from ⟨hex_10.1, by rw [← (rf_ps hR_10 hpn).2.1]; exact rf_ylt rfl hc_9⟩); omega); omega)) (cm_V 3 hts kc_X11_stepOf ki_RX11 kl_RX11_218 kv_X11_stepOf kx_X11_stepOf kd_X11_stepOf ⟨Nat.le_of_ble_eq_true rfl, Nat.le_of_ble_eq_true rfl⟩) (ty_preE (wr := []) (wc := ([(rf_MO mo mw ma mf m0 m1 mu mv u0 u1 iz th mb mn mpt mbg mwr mwk mlf men), (rf_RW ct 0 mw 958 f_5)] ++ ws_8)) (ci := 11) (q0 := 0) hP hK hD hS hA hX rfl rfl) rfl rfl hl.1 rfl (lv_room (Nat.le_of_ble_eq_true rfl)) dX11_comes_25 ⟨Nat.le_of_ble_eq_true rfl, Nat.le_of_ble_eq_true rfl⟩) hP hD hS hA (fun r_76 u H locs hw_77 hP hD hS => ?_)
    obtain ⟨ws_78, rfl⟩ : ∃ z, z = u := ⟨_, rfl⟩
    obtain ⟨hT, rfl⟩ := hw_77
    have hP : va_P D vwCl ([(rf_MO mo mw ma mf m0 m1 mu mv u0 u1 iz th mb mn mpt mbg mwr mwk mlf men), (rf_RW ct 0 mw 958 f_5)] ++ ws_78) H := hP
    have hD : va_D A ([(rf_MO mo mw ma mf m0 m1 mu mv u0 u1 iz th mb mn mpt mbg mwr mwk mlf men), (rf_RW ct 0 mw 958 f_5)] ++ ws_78) := hD
    refine lv_iconst (v := 4) hx hb dX11_comes_28 (by decide) ?_
    refine lv_icmp_ne (tgt := 105) hx hb dX11_comes_29 (by decide) (fun hc_79 => ?_) (fun hc_79 => ?_)
    · refine lv_iload hx hb dX11_comes_105 (lv_at hl 4 rfl) ?_
      refine lv_aload_n hx hb dX11_comes_107 rfl (lv_at hl 0 rfl) ?_
      refine lv_iload_n hx hb dX11_comes_108 rfl (lv_at hl 3 rfl) ?_
      refine ty_ki (wr := []) (wc := ([(rf_MO mo mw ma mf m0 m1 mu mv u0 u1 iz th mb mn mpt mbg mwr mwk mlf men), (rf_RW ct 0 mw 958 f_5)] ++ ws_78)) (va_runV (As := [.int (rf_of f p1 1)]) (rest := [.int y_4]) ⟨hx, hb, hml, hown, hts⟩ (m_X11_stepsOf l D ct S ws_78 ph xx mo mw ma mf m0 m1 mu mv u0 u1 iz mb th mn mpt mbg mwr mwk mlf men f_5 G cx (rf_of f p1 1) _ hT h_mu h_mv h_u0 h_u1 hph hy1 hR_10 (rf_p4 hR_10 hp)) (cm_V 1 hts kc_X11_stepsOf ki_RX11 kl_RX11_276 kv_X11_stepsOf kx_X11_stepsOf kd_X11_stepsOf ⟨Nat.le_of_ble_eq_true rfl, Nat.le_of_ble_eq_true rfl⟩) (ty_preE (wr := []) (wc := ([(rf_MO mo mw ma mf m0 m1 mu mv u0 u1 iz th mb mn mpt mbg mwr mwk mlf men), (rf_RW ct 0 mw 958 f_5)] ++ ws_78)) (ci := 11) (q0 := 0) hP hK hD hS hA hX rfl rfl) rfl rfl hl.1 rfl (lv_room (Nat.le_of_ble_eq_true rfl)) dX11_comes_109 ⟨Nat.le_of_ble_eq_true rfl, Nat.le_of_ble_eq_true rfl⟩) hP hD hS hA (fun r_80 u H locs hw_81 hP hD hS => ?_)
      obtain ⟨ws_82, rfl⟩ : ∃ z, z = u := ⟨_, rfl⟩
      obtain ⟨hT, rfl⟩ := hw_81
      have hP : va_P D vwCl ([(rf_MO mo mw ma mf m0 m1 mu mv u0 u1 iz th mb mn mpt mbg mwr mwk mlf men), (rf_RW ct 0 mw 958 f_5)] ++ ws_82) H := hP
      have hD : va_D A ([(rf_MO mo mw ma mf m0 m1 mu mv u0 u1 iz th mb mn mpt mbg mwr mwk mlf men), (rf_RW ct 0 mw 958 f_5)] ++ ws_82) := hD
      refine lv_icmp_ne (tgt := 119) hx hb dX11_comes_112 (by decide) (fun hc_83 => ?_) (fun hc_83 => ?_)
      · refine lv_iconst (v := 0) hx hb dX11_comes_119 (by decide) ?_
        refine lv_istore (lv' := [(5, .int 0), (0, .ref mo), (1, .int p1), (2, .int p2), (3, .int (rf_of f p1 1)), (4, .int y_4)]) hx hb dX11_comes_120 hl (by decide) rfl (fun ls hl => ?_)
        refine lv_aload_n hx hb dX11_comes_122 rfl (lv_at hl 1 rfl) ?_
        refine lv_iload_n hx hb dX11_comes_123 rfl (lv_at hl 2 rfl) ?_
        refine lv_iconst (v := 2) hx hb dX11_comes_124 (by decide) ?_
        refine lv_iload hx hb dX11_comes_125 (lv_at hl 0 rfl) ?_
        refine lv_if_eq (tgt := 134) hx hb dX11_comes_127 (by decide) (fun _ => ?_) (fun hc => absurd (by decide) hc)
        refine lv_iload hx hb dX11_comes_134 (lv_at hl 5 rfl) ?_
        refine ty_kv (wr := []) (wc := ([(rf_MO mo mw ma mf m0 m1 mu mv u0 u1 iz th mb mn mpt mbg mwr mwk mlf men), (rf_RW ct 0 mw 958 f_5)] ++ ws_82)) (va_runV (As := [.int p1, .int 2, .int y_4]) (rest := []) ⟨hx, hb, hml, hown, hts⟩ (m_put_2 l D ct S ws_82 ph xx mo mw ma mf m0 m1 mu mv u0 u1 iz mb th mn mpt mbg mwr mwk mlf men f_5 G cx p1 y_4 _ hT h_mu h_mv h_u0 h_u1 hph hy1 hR_10 hc hcx (rf_step2 hex_10.1 (by have := rf_nes hc_83 (by rw [(rf_ps hR_10 hpn).2.1]; exact hex_10.2); have := (rf_ps hR_10 hpn).1.2; have e9 := congrArg Int32.toInt (rf_ps hR_10 hpn).2.1; omega))) (cm_V 3 hts kc_X11_put ki_RX11 kl_RX11_234 kv_X11_put kx_X11_put kd_X11_put ⟨Nat.le_of_ble_eq_true rfl, Nat.le_of_ble_eq_true rfl⟩) (ty_preE (wr := []) (wc := ([(rf_MO mo mw ma mf m0 m1 mu mv u0 u1 iz th mb mn mpt mbg mwr mwk mlf men), (rf_RW ct 0 mw 958 f_5)] ++ ws_82)) (ci := 11) (q0 := 0) hP hK hD hS hA hX rfl rfl) rfl rfl hl.1 rfl (lv_room (Nat.le_of_ble_eq_true rfl)) dX11_comes_136 ⟨Nat.le_of_ble_eq_true rfl, Nat.le_of_ble_eq_true rfl⟩) hP hD hS hA (fun u H locs hw_85 hP hD hS => ?_)
        obtain ⟨ws_86, f1_87⟩ := u
        obtain ⟨hT, hp_88⟩ := hw_85
        have hp_88 : rf_d (f_5 8) f_5 f1_87 ∧ rf_R G p1.toInt f1_87 ∧ f1_87 = upd f_5 (244 + 54 * p1.toInt.toNat + 2) y_4 := hp_88
        obtain ⟨hd_89, hq_90⟩ := hp_88
        have hD_91 := rf_dt hD_10 hd_89
        have hR_92 := hq_90.1
        have hP : va_P D vwCl ([(rf_MO mo mw ma mf m0 m1 mu mv u0 u1 iz th mb mn mpt mbg mwr mwk mlf men), (rf_RW ct 0 mw 958 f1_87)] ++ ws_86) H := hP
        have hD : va_D A ([(rf_MO mo mw ma mf m0 m1 mu mv u0 u1 iz th mb mn mpt mbg mwr mwk mlf men), (rf_RW ct 0 mw 958 f1_87)] ++ ws_86) := hD
        refine lv_aload_n hx hb dX11_comes_139 rfl (lv_at hl 1 rfl) ?_
        refine lv_iload_n hx hb dX11_comes_140 rfl (lv_at hl 2 rfl) ?_
        refine lv_iconst (v := 3) hx hb dX11_comes_141 (by decide) ?_
        refine lv_iconst (v := 0) hx hb dX11_comes_142 (by decide) ?_
        refine ty_kv (wr := []) (wc := ([(rf_MO mo mw ma mf m0 m1 mu mv u0 u1 iz th mb mn mpt mbg mwr mwk mlf men), (rf_RW ct 0 mw 958 f1_87)] ++ ws_86)) (va_runV (As := [.int p1, .int 3, .int 0]) (rest := []) ⟨hx, hb, hml, hown, hts⟩ (m_put_3 l D ct S ws_86 ph xx mo mw ma mf m0 m1 mu mv u0 u1 iz mb th mn mpt mbg mwr mwk mlf men f1_87 G p1.toInt p1 (0 : Int32) _ hT h_mu h_mv h_u0 h_u1 hph hy1 hR_92 hc) (cm_V 3 hts kc_X11_put ki_RX11 kl_RX11_234 kv_X11_put kx_X11_put kd_X11_put ⟨Nat.le_of_ble_eq_true rfl, Nat.le_of_ble_eq_true rfl⟩) (ty_preE (wr := []) (wc := ([(rf_MO mo mw ma mf m0 m1 mu mv u0 u1 iz th mb mn mpt mbg mwr mwk mlf men), (rf_RW ct 0 mw 958 f1_87)] ++ ws_86)) (ci := 11) (q0 := 0) hP hK hD hS hA hX rfl rfl) rfl rfl hl.1 rfl (lv_room (Nat.le_of_ble_eq_true rfl)) dX11_comes_143 ⟨Nat.le_of_ble_eq_true rfl, Nat.le_of_ble_eq_true rfl⟩) hP hD hS hA (fun u H locs hw_95 hP hD hS => ?_)
        obtain ⟨ws_96, f1_97⟩ := u
        obtain ⟨hT, hp_98⟩ := hw_95
        have hp_98 : rf_d (f1_87 8) f1_87 f1_97 ∧ rf_R G p1.toInt f1_97 ∧ rf_sm f1_87 f1_97 ∧ f1_97 = upd f1_87 (244 + 54 * p1.toInt.toNat + 3) (0 : Int32) := hp_98
        obtain ⟨hd_99, hq_100⟩ := hp_98
        have hD_101 := rf_dt hD_91 hd_99
        have hR_102 := hq_100.1
        have hP : va_P D vwCl ([(rf_MO mo mw ma mf m0 m1 mu mv u0 u1 iz th mb mn mpt mbg mwr mwk mlf men), (rf_RW ct 0 mw 958 f1_97)] ++ ws_96) H := hP
        have hD : va_D A ([(rf_MO mo mw ma mf m0 m1 mu mv u0 u1 iz th mb mn mpt mbg mwr mwk mlf men), (rf_RW ct 0 mw 958 f1_97)] ++ ws_96) := hD
        refine lv_aload_n hx hb dX11_comes_146 rfl (lv_at hl 1 rfl) ?_
        refine lv_iload_n hx hb dX11_comes_147 rfl (lv_at hl 2 rfl) ?_
        refine lv_bipush (v := 6) hx hb dX11_comes_148 (by decide) ?_
        refine lv_aload_n hx hb dX11_comes_150 rfl (lv_at hl 1 rfl) ?_
        refine lv_iload_n hx hb dX11_comes_151 rfl (lv_at hl 2 rfl) ?_
        refine lv_iconst (v := 1) hx hb dX11_comes_152 (by decide) ?_
        have hP : va_P D vwCl ([(rf_RW ct 0 mw 958 f1_97), (rf_MO mo mw ma mf m0 m1 mu mv u0 u1 iz th mb mn mpt mbg mwr mwk mlf men)] ++ ws_96) H := ty_permP hP (ty_ordp (E := [(rf_MO mo mw ma mf m0 m1 mu mv u0 u1 iz th mb mn mpt mbg mwr mwk mlf men), (rf_RW ct 0 mw 958 f1_97)]) (E2 := [(rf_RW ct 0 mw 958 f1_97), (rf_MO mo mw ma mf m0 m1 mu mv u0 u1 iz th mb mn mpt mbg mwr mwk mlf men)]) (n := 2) [1, 0] rfl rfl (by decide))
        have hD : va_D A ([(rf_RW ct 0 mw 958 f1_97), (rf_MO mo mw ma mf m0 m1 mu mv u0 u1 iz th mb mn mpt mbg mwr mwk mlf men)] ++ ws_96) := ty_permD hD (ty_ordp (E := [(rf_MO mo mw ma mf m0 m1 mu mv u0 u1 iz th mb mn mpt mbg mwr mwk mlf men), (rf_RW ct 0 mw 958 f1_97)]) (E2 := [(rf_RW ct 0 mw 958 f1_97), (rf_MO mo mw ma mf m0 m1 mu mv u0 u1 iz th mb mn mpt mbg mwr mwk mlf men)]) (n := 2) [1, 0] rfl rfl (by decide))
        refine ty_kl (wr := [(rf_RW ct 0 mw 958 f1_97)]) (wc := ([(rf_MO mo mw ma mf m0 m1 mu mv u0 u1 iz th mb mn mpt mbg mwr mwk mlf men)] ++ ws_96)) (va_runV (As := [.int p1, .int 1]) (rest := [.int 6, .int p1, .ref mo]) ⟨hx, hb, hml, hown, hts⟩ (m_X11_sum l D ct S ws_96 ph xx mo mw ma mf m0 m1 mu mv u0 u1 iz mb th mn mpt mbg mwr mwk mlf men p1 (1 : Int32) _ hT h_mu h_mv h_u0 h_u1 hph hy1 (rf_c6 hR_102 hc) (by decide)) (cm_V 2 hts kc_X11_sum ki_RX11 kl_RX11_261 kv_X11_sum kx_X11_sum kd_X11_sum ⟨Nat.le_of_ble_eq_true rfl, Nat.le_of_ble_eq_true rfl⟩) (ty_preE (wr := [(rf_RW ct 0 mw 958 f1_97)]) (wc := ([(rf_MO mo mw ma mf m0 m1 mu mv u0 u1 iz th mb mn mpt mbg mwr mwk mlf men)] ++ ws_96)) (ci := 11) (q0 := 1) hP hK hD hS hA hX rfl rfl) rfl rfl hl.1 rfl (lv_room (Nat.le_of_ble_eq_true rfl)) dX11_comes_153 ⟨Nat.le_of_ble_eq_true rfl, Nat.le_of_ble_eq_true rfl⟩) hP hD hS hA (fun r_104 u H locs hw_105 hP hD hS => ?_)
        obtain ⟨ws_106, rfl⟩ : ∃ z, z = u := ⟨_, rfl⟩
        have hT := hw_105
        have hP : va_P D vwCl ([(rf_RW ct 0 mw 958 f1_97), (rf_MO mo mw ma mf m0 m1 mu mv u0 u1 iz th mb mn mpt mbg mwr mwk mlf men)] ++ ws_106) H := hP
        have hD : va_D A ([(rf_RW ct 0 mw 958 f1_97), (rf_MO mo mw ma mf m0 m1 mu mv u0 u1 iz th mb mn mpt mbg mwr mwk mlf men)] ++ ws_106) := hD
        refine ty_kv (wr := [(rf_RW ct 0 mw 958 f1_97)]) (wc := ([(rf_MO mo mw ma mf m0 m1 mu mv u0 u1 iz th mb mn mpt mbg mwr mwk mlf men)] ++ ws_106)) (va_runV (As := [.int p1, .int 6, .long r_104]) (rest := []) ⟨hx, hb, hml, hown, hts⟩ (m_X11_putSum l D ct S ws_106 ph xx mo mw ma mf m0 m1 mu mv u0 u1 iz mb th mn mpt mbg mwr mwk mlf men p1 (6 : Int32) r_104 _ hT h_mu h_mv h_u0 h_u1 hph hy1 hy11 (rf_c6 hR_102 hc) (by decide)) (cm_V 3 hts kc_X11_putSum ki_RX11 kl_RX11_265 kv_X11_putSum kx_X11_putSum kd_X11_putSum ⟨Nat.le_of_ble_eq_true rfl, Nat.le_of_ble_eq_true rfl⟩) (ty_preE (wr := [(rf_RW ct 0 mw 958 f1_97)]) (wc := ([(rf_MO mo mw ma mf m0 m1 mu mv u0 u1 iz th mb mn mpt mbg mwr mwk mlf men)] ++ ws_106)) (ci := 11) (q0 := 1) hP hK hD hS hA hX rfl rfl) rfl rfl hl.1 rfl (lv_room (Nat.le_of_ble_eq_true rfl)) dX11_comes_156 ⟨Nat.le_of_ble_eq_true rfl, Nat.le_of_ble_eq_true rfl⟩) hP hD hS hA (fun u H locs hw_108 hP hD hS => ?_)
        obtain ⟨ws_109, rfl⟩ : ∃ z, z = u := ⟨_, rfl⟩
        have hT := hw_108
        have hP : va_P D vwCl ([(rf_RW ct 0 mw 958 f1_97), (rf_MO mo mw ma mf m0 m1 mu mv u0 u1 iz th mb mn mpt mbg mwr mwk mlf men)] ++ ws_109) H := hP
        have hD : va_D A ([(rf_RW ct 0 mw 958 f1_97), (rf_MO mo mw ma mf m0 m1 mu mv u0 u1 iz th mb mn mpt mbg mwr mwk mlf men)] ++ ws_109) := hD
        refine lv_iload hx hb dX11_comes_159 (lv_at hl 0 rfl) ?_
        refine lv_if_eq (tgt := 169) hx hb dX11_comes_161 (by decide) (fun _ => ?_) (fun hc => absurd (by decide) hc)
        have e1 : rf_of f1_97 p1 1 = rf_of f_5 p1 1 := by rw [hq_100.2.2, rf_ne (by decide), hq_90.2]; exact rf_ne (by decide)
        have e2 : rf_of f1_97 p1 2 = y_4 := by rw [hq_100.2.2, rf_ne (by decide), hq_90.2]; exact rf_eq
        have e0 : rf_of f_5 p1 1 = rf_of f p1 1 := rf_smof (rf_c6 hR hc) hM_10 (by decide)
        have hRf := rf_back9 hc.1 hR_102 (Or.inr rfl) (rf_runok hc.1 (by unfold rf_on; rw [e1, e2, e0]; exact ⟨hp, hex_10.1, by rw [← (rf_ps hR_10 hpn).2.1]; exact rf_nes hc_83 (by rw [(rf_ps hR_10 hpn).2.1]; exact hex_10.2)⟩))
        have hP : va_P D vwCl ([(rf_MO mo mw ma mf m0 m1 mu mv u0 u1 iz th mb mn mpt mbg mwr mwk mlf men), (rf_RW ct 0 mw 958 f1_97)] ++ ws_109) H := ty_permP hP (ty_ordp (E := [(rf_RW ct 0 mw 958 f1_97), (rf_MO mo mw ma mf m0 m1 mu mv u0 u1 iz th mb mn mpt mbg mwr mwk mlf men)]) (E2 := [(rf_MO mo mw ma mf m0 m1 mu mv u0 u1 iz th mb mn mpt mbg mwr mwk mlf men), (rf_RW ct 0 mw 958 f1_97)]) (n := 2) [1, 0] rfl rfl (by decide))
        have hD : va_D A ([(rf_MO mo mw ma mf m0 m1 mu mv u0 u1 iz th mb mn mpt mbg mwr mwk mlf men), (rf_RW ct 0 mw 958 f1_97)] ++ ws_109) := ty_permD hD (ty_ordp (E := [(rf_RW ct 0 mw 958 f1_97), (rf_MO mo mw ma mf m0 m1 mu mv u0 u1 iz th mb mn mpt mbg mwr mwk mlf men)]) (E2 := [(rf_MO mo mw ma mf m0 m1 mu mv u0 u1 iz th mb mn mpt mbg mwr mwk mlf men), (rf_RW ct 0 mw 958 f1_97)]) (n := 2) [1, 0] rfl rfl (by decide))
        exact W.vret hx hb hr (fun t ht hW => ⟨⟨(ws_109, f1_97), rfl, ⟨hT, ⟨hD_101, hRf⟩⟩, by rw [ht]; exact hP, by rw [hAe]; exact hD⟩, hS.F ht⟩) hS.2.2 dX11_comes_169
      · refine lv_iconst (v := 1) hx hb dX11_comes_115 (by decide) ?_
        refine lv_goto (tgt := 120) hx hb dX11_comes_116 (by decide) ?_
        refine lv_istore (lv' := [(5, .int 1), (0, .ref mo), (1, .int p1), (2, .int p2), (3, .int (rf_of f p1 1)), (4, .int y_4)]) hx hb dX11_comes_120 hl (by decide) rfl (fun ls hl => ?_)
        refine lv_aload_n hx hb dX11_comes_122 rfl (lv_at hl 1 rfl) ?_
        refine lv_iload_n hx hb dX11_comes_123 rfl (lv_at hl 2 rfl) ?_
        refine lv_iconst (v := 2) hx hb dX11_comes_124 (by decide) ?_
        refine lv_iload hx hb dX11_comes_125 (lv_at hl 0 rfl) ?_
        refine lv_if_eq (tgt := 134) hx hb dX11_comes_127 (by decide) (fun hc => absurd hc (by decide)) (fun _ => ?_)
        refine lv_iconst (v := (-1)) hx hb dX11_comes_130 (by decide) ?_
        refine lv_goto (tgt := 136) hx hb dX11_comes_131 (by decide) ?_
        refine ty_kv (wr := []) (wc := ([(rf_MO mo mw ma mf m0 m1 mu mv u0 u1 iz th mb mn mpt mbg mwr mwk mlf men), (rf_RW ct 0 mw 958 f_5)] ++ ws_82)) (va_runV (As := [.int p1, .int 2, .int (-1)]) (rest := []) ⟨hx, hb, hml, hown, hts⟩ (m_put_2 l D ct S ws_82 ph xx mo mw ma mf m0 m1 mu mv u0 u1 iz mb th mn mpt mbg mwr mwk mlf men f_5 G cx p1 ((-1) : Int32) _ hT h_mu h_mv h_u0 h_u1 hph hy1 hR_10 hc hcx (fun _ => (show -1 ≤ (-1 : Int32).toInt ∧ (-1 : Int32).toInt ≤ 11 from by decide))) (cm_V 3 hts kc_X11_put ki_RX11 kl_RX11_234 kv_X11_put kx_X11_put kd_X11_put ⟨Nat.le_of_ble_eq_true rfl, Nat.le_of_ble_eq_true rfl⟩) (ty_preE (wr := []) (wc := ([(rf_MO mo mw ma mf m0 m1 mu mv u0 u1 iz th mb mn mpt mbg mwr mwk mlf men), (rf_RW ct 0 mw 958 f_5)] ++ ws_82)) (ci := 11) (q0 := 0) hP hK hD hS hA hX rfl rfl) rfl rfl hl.1 rfl (lv_room (Nat.le_of_ble_eq_true rfl)) dX11_comes_136 ⟨Nat.le_of_ble_eq_true rfl, Nat.le_of_ble_eq_true rfl⟩) hP hD hS hA (fun u H locs hw_111 hP hD hS => ?_)
        obtain ⟨ws_112, f1_113⟩ := u
        obtain ⟨hT, hp_114⟩ := hw_111
        have hp_114 : rf_d (f_5 8) f_5 f1_113 ∧ rf_R G p1.toInt f1_113 ∧ f1_113 = upd f_5 (244 + 54 * p1.toInt.toNat + 2) ((-1) : Int32) := hp_114
        obtain ⟨hd_115, hq_116⟩ := hp_114
        have hD_117 := rf_dt hD_10 hd_115
        have hR_118 := hq_116.1
        have hP : va_P D vwCl ([(rf_MO mo mw ma mf m0 m1 mu mv u0 u1 iz th mb mn mpt mbg mwr mwk mlf men), (rf_RW ct 0 mw 958 f1_113)] ++ ws_112) H := hP
        have hD : va_D A ([(rf_MO mo mw ma mf m0 m1 mu mv u0 u1 iz th mb mn mpt mbg mwr mwk mlf men), (rf_RW ct 0 mw 958 f1_113)] ++ ws_112) := hD
        refine lv_aload_n hx hb dX11_comes_139 rfl (lv_at hl 1 rfl) ?_
        refine lv_iload_n hx hb dX11_comes_140 rfl (lv_at hl 2 rfl) ?_
        refine lv_iconst (v := 3) hx hb dX11_comes_141 (by decide) ?_
        refine lv_iconst (v := 0) hx hb dX11_comes_142 (by decide) ?_
        refine ty_kv (wr := []) (wc := ([(rf_MO mo mw ma mf m0 m1 mu mv u0 u1 iz th mb mn mpt mbg mwr mwk mlf men), (rf_RW ct 0 mw 958 f1_113)] ++ ws_112)) (va_runV (As := [.int p1, .int 3, .int 0]) (rest := []) ⟨hx, hb, hml, hown, hts⟩ (m_put_3 l D ct S ws_112 ph xx mo mw ma mf m0 m1 mu mv u0 u1 iz mb th mn mpt mbg mwr mwk mlf men f1_113 G p1.toInt p1 (0 : Int32) _ hT h_mu h_mv h_u0 h_u1 hph hy1 hR_118 hc) (cm_V 3 hts kc_X11_put ki_RX11 kl_RX11_234 kv_X11_put kx_X11_put kd_X11_put ⟨Nat.le_of_ble_eq_true rfl, Nat.le_of_ble_eq_true rfl⟩) (ty_preE (wr := []) (wc := ([(rf_MO mo mw ma mf m0 m1 mu mv u0 u1 iz th mb mn mpt mbg mwr mwk mlf men), (rf_RW ct 0 mw 958 f1_113)] ++ ws_112)) (ci := 11) (q0 := 0) hP hK hD hS hA hX rfl rfl) rfl rfl hl.1 rfl (lv_room (Nat.le_of_ble_eq_true rfl)) dX11_comes_143 ⟨Nat.le_of_ble_eq_true rfl, Nat.le_of_ble_eq_true rfl⟩) hP hD hS hA (fun u H locs hw_121 hP hD hS => ?_)
        obtain ⟨ws_122, f1_123⟩ := u
        obtain ⟨hT, hp_124⟩ := hw_121
        have hp_124 : rf_d (f1_113 8) f1_113 f1_123 ∧ rf_R G p1.toInt f1_123 ∧ rf_sm f1_113 f1_123 ∧ f1_123 = upd f1_113 (244 + 54 * p1.toInt.toNat + 3) (0 : Int32) := hp_124
        obtain ⟨hd_125, hq_126⟩ := hp_124
        have hD_127 := rf_dt hD_117 hd_125
        have hR_128 := hq_126.1
        have hP : va_P D vwCl ([(rf_MO mo mw ma mf m0 m1 mu mv u0 u1 iz th mb mn mpt mbg mwr mwk mlf men), (rf_RW ct 0 mw 958 f1_123)] ++ ws_122) H := hP
        have hD : va_D A ([(rf_MO mo mw ma mf m0 m1 mu mv u0 u1 iz th mb mn mpt mbg mwr mwk mlf men), (rf_RW ct 0 mw 958 f1_123)] ++ ws_122) := hD
        refine lv_aload_n hx hb dX11_comes_146 rfl (lv_at hl 1 rfl) ?_
        refine lv_iload_n hx hb dX11_comes_147 rfl (lv_at hl 2 rfl) ?_
        refine lv_bipush (v := 6) hx hb dX11_comes_148 (by decide) ?_
        refine lv_aload_n hx hb dX11_comes_150 rfl (lv_at hl 1 rfl) ?_
        refine lv_iload_n hx hb dX11_comes_151 rfl (lv_at hl 2 rfl) ?_
        refine lv_iconst (v := 1) hx hb dX11_comes_152 (by decide) ?_
        have hP : va_P D vwCl ([(rf_RW ct 0 mw 958 f1_123), (rf_MO mo mw ma mf m0 m1 mu mv u0 u1 iz th mb mn mpt mbg mwr mwk mlf men)] ++ ws_122) H := ty_permP hP (ty_ordp (E := [(rf_MO mo mw ma mf m0 m1 mu mv u0 u1 iz th mb mn mpt mbg mwr mwk mlf men), (rf_RW ct 0 mw 958 f1_123)]) (E2 := [(rf_RW ct 0 mw 958 f1_123), (rf_MO mo mw ma mf m0 m1 mu mv u0 u1 iz th mb mn mpt mbg mwr mwk mlf men)]) (n := 2) [1, 0] rfl rfl (by decide))
        have hD : va_D A ([(rf_RW ct 0 mw 958 f1_123), (rf_MO mo mw ma mf m0 m1 mu mv u0 u1 iz th mb mn mpt mbg mwr mwk mlf men)] ++ ws_122) := ty_permD hD (ty_ordp (E := [(rf_MO mo mw ma mf m0 m1 mu mv u0 u1 iz th mb mn mpt mbg mwr mwk mlf men), (rf_RW ct 0 mw 958 f1_123)]) (E2 := [(rf_RW ct 0 mw 958 f1_123), (rf_MO mo mw ma mf m0 m1 mu mv u0 u1 iz th mb mn mpt mbg mwr mwk mlf men)]) (n := 2) [1, 0] rfl rfl (by decide))
        refine ty_kl (wr := [(rf_RW ct 0 mw 958 f1_123)]) (wc := ([(rf_MO mo mw ma mf m0 m1 mu mv u0 u1 iz th mb mn mpt mbg mwr mwk mlf men)] ++ ws_122)) (va_runV (As := [.int p1, .int 1]) (rest := [.int 6, .int p1, .ref mo]) ⟨hx, hb, hml, hown, hts⟩ (m_X11_sum l D ct S ws_122 ph xx mo mw ma mf m0 m1 mu mv u0 u1 iz mb th mn mpt mbg mwr mwk mlf men p1 (1 : Int32) _ hT h_mu h_mv h_u0 h_u1 hph hy1 (rf_c6 hR_128 hc) (by decide)) (cm_V 2 hts kc_X11_sum ki_RX11 kl_RX11_261 kv_X11_sum kx_X11_sum kd_X11_sum ⟨Nat.le_of_ble_eq_true rfl, Nat.le_of_ble_eq_true rfl⟩) (ty_preE (wr := [(rf_RW ct 0 mw 958 f1_123)]) (wc := ([(rf_MO mo mw ma mf m0 m1 mu mv u0 u1 iz th mb mn mpt mbg mwr mwk mlf men)] ++ ws_122)) (ci := 11) (q0 := 1) hP hK hD hS hA hX rfl rfl) rfl rfl hl.1 rfl (lv_room (Nat.le_of_ble_eq_true rfl)) dX11_comes_153 ⟨Nat.le_of_ble_eq_true rfl, Nat.le_of_ble_eq_true rfl⟩) hP hD hS hA (fun r_130 u H locs hw_131 hP hD hS => ?_)
        obtain ⟨ws_132, rfl⟩ : ∃ z, z = u := ⟨_, rfl⟩
        have hT := hw_131
        have hP : va_P D vwCl ([(rf_RW ct 0 mw 958 f1_123), (rf_MO mo mw ma mf m0 m1 mu mv u0 u1 iz th mb mn mpt mbg mwr mwk mlf men)] ++ ws_132) H := hP
        have hD : va_D A ([(rf_RW ct 0 mw 958 f1_123), (rf_MO mo mw ma mf m0 m1 mu mv u0 u1 iz th mb mn mpt mbg mwr mwk mlf men)] ++ ws_132) := hD
        refine ty_kv (wr := [(rf_RW ct 0 mw 958 f1_123)]) (wc := ([(rf_MO mo mw ma mf m0 m1 mu mv u0 u1 iz th mb mn mpt mbg mwr mwk mlf men)] ++ ws_132)) (va_runV (As := [.int p1, .int 6, .long r_130]) (rest := []) ⟨hx, hb, hml, hown, hts⟩ (m_X11_putSum l D ct S ws_132 ph xx mo mw ma mf m0 m1 mu mv u0 u1 iz mb th mn mpt mbg mwr mwk mlf men p1 (6 : Int32) r_130 _ hT h_mu h_mv h_u0 h_u1 hph hy1 hy11 (rf_c6 hR_128 hc) (by decide)) (cm_V 3 hts kc_X11_putSum ki_RX11 kl_RX11_265 kv_X11_putSum kx_X11_putSum kd_X11_putSum ⟨Nat.le_of_ble_eq_true rfl, Nat.le_of_ble_eq_true rfl⟩) (ty_preE (wr := [(rf_RW ct 0 mw 958 f1_123)]) (wc := ([(rf_MO mo mw ma mf m0 m1 mu mv u0 u1 iz th mb mn mpt mbg mwr mwk mlf men)] ++ ws_132)) (ci := 11) (q0 := 1) hP hK hD hS hA hX rfl rfl) rfl rfl hl.1 rfl (lv_room (Nat.le_of_ble_eq_true rfl)) dX11_comes_156 ⟨Nat.le_of_ble_eq_true rfl, Nat.le_of_ble_eq_true rfl⟩) hP hD hS hA (fun u H locs hw_134 hP hD hS => ?_)
        obtain ⟨ws_135, rfl⟩ : ∃ z, z = u := ⟨_, rfl⟩
        have hT := hw_134
        have hP : va_P D vwCl ([(rf_RW ct 0 mw 958 f1_123), (rf_MO mo mw ma mf m0 m1 mu mv u0 u1 iz th mb mn mpt mbg mwr mwk mlf men)] ++ ws_135) H := hP
        have hD : va_D A ([(rf_RW ct 0 mw 958 f1_123), (rf_MO mo mw ma mf m0 m1 mu mv u0 u1 iz th mb mn mpt mbg mwr mwk mlf men)] ++ ws_135) := hD
        refine lv_iload hx hb dX11_comes_159 (lv_at hl 0 rfl) ?_
        refine lv_if_eq (tgt := 169) hx hb dX11_comes_161 (by decide) (fun hc => absurd hc (by decide)) (fun _ => ?_)
        refine lv_aload_n hx hb dX11_comes_164 rfl (lv_at hl 1 rfl) ?_
        refine lv_iload_n hx hb dX11_comes_165 rfl (lv_at hl 2 rfl) ?_
        have hP : va_P D vwCl ([(rf_MO mo mw ma mf m0 m1 mu mv u0 u1 iz th mb mn mpt mbg mwr mwk mlf men), (rf_RW ct 0 mw 958 f1_123)] ++ ws_135) H := ty_permP hP (ty_ordp (E := [(rf_RW ct 0 mw 958 f1_123), (rf_MO mo mw ma mf m0 m1 mu mv u0 u1 iz th mb mn mpt mbg mwr mwk mlf men)]) (E2 := [(rf_MO mo mw ma mf m0 m1 mu mv u0 u1 iz th mb mn mpt mbg mwr mwk mlf men), (rf_RW ct 0 mw 958 f1_123)]) (n := 2) [1, 0] rfl rfl (by decide))
        have hD : va_D A ([(rf_MO mo mw ma mf m0 m1 mu mv u0 u1 iz th mb mn mpt mbg mwr mwk mlf men), (rf_RW ct 0 mw 958 f1_123)] ++ ws_135) := ty_permD hD (ty_ordp (E := [(rf_RW ct 0 mw 958 f1_123), (rf_MO mo mw ma mf m0 m1 mu mv u0 u1 iz th mb mn mpt mbg mwr mwk mlf men)]) (E2 := [(rf_MO mo mw ma mf m0 m1 mu mv u0 u1 iz th mb mn mpt mbg mwr mwk mlf men), (rf_RW ct 0 mw 958 f1_123)]) (n := 2) [1, 0] rfl rfl (by decide))
        refine ty_kv (wr := []) (wc := ([(rf_MO mo mw ma mf m0 m1 mu mv u0 u1 iz th mb mn mpt mbg mwr mwk mlf men), (rf_RW ct 0 mw 958 f1_123)] ++ ws_135)) (va_runV (As := [.int p1]) (rest := []) ⟨hx, hb, hml, hown, hts⟩ (m_X11_comesToEnd l D ct S ws_135 ph xx mo mw ma mf m0 m1 mu mv u0 u1 iz mb th mn mpt mbg mwr mwk mlf men f1_123 G p1.toInt p1 _ hT h_mu h_mv h_u0 h_u1 hph hy1 hy11 hR_128 hc (Or.inr rfl)) (cm_V 1 hts kc_X11_comesToEnd ki_RX11 kl_RX11_279 kv_X11_comesToEnd kx_X11_comesToEnd kd_X11_comesToEnd ⟨Nat.le_of_ble_eq_true rfl, Nat.le_of_ble_eq_true rfl⟩) (ty_preE (wr := []) (wc := ([(rf_MO mo mw ma mf m0 m1 mu mv u0 u1 iz th mb mn mpt mbg mwr mwk mlf men), (rf_RW ct 0 mw 958 f1_123)] ++ ws_135)) (ci := 11) (q0 := 0) hP hK hD hS hA hX rfl rfl) rfl rfl hl.1 rfl (lv_room (Nat.le_of_ble_eq_true rfl)) dX11_comes_166 ⟨Nat.le_of_ble_eq_true rfl, Nat.le_of_ble_eq_true rfl⟩) hP hD hS hA (fun u H locs hw_137 hP hD hS => ?_)
        obtain ⟨ws_138, f1_139⟩ := u
        obtain ⟨hT, hp_140⟩ := hw_137
        have hp_140 : rf_d (f1_123 8) f1_123 f1_139 ∧ rf_R G (-1) f1_139 := hp_140
        obtain ⟨hd_141, hq_142⟩ := hp_140
        have hD_143 := rf_dt hD_127 hd_141
        have hR_144 := hq_142
        have hP : va_P D vwCl ([(rf_MO mo mw ma mf m0 m1 mu mv u0 u1 iz th mb mn mpt mbg mwr mwk mlf men), (rf_RW ct 0 mw 958 f1_139)] ++ ws_138) H := hP
        have hD : va_D A ([(rf_MO mo mw ma mf m0 m1 mu mv u0 u1 iz th mb mn mpt mbg mwr mwk mlf men), (rf_RW ct 0 mw 958 f1_139)] ++ ws_138) := hD
        exact W.vret hx hb hr (fun t ht hW => ⟨⟨(ws_138, f1_139), rfl, ⟨hT, ⟨hD_143, hR_144⟩⟩, by rw [ht]; exact hP, by rw [hAe]; exact hD⟩, hS.F ht⟩) hS.2.2 dX11_comes_169
    · refine lv_aload_n hx hb dX11_comes_32 rfl (lv_at hl 0 rfl) ?_
      refine lv_iload_n hx hb dX11_comes_33 rfl (lv_at hl 1 rfl) ?_
      refine lv_bipush (v := 24) hx hb dX11_comes_34 (by decide) ?_
      refine lv_iload hx hb dX11_comes_36 (lv_at hl 4 rfl) ?_
      refine lv_iadd hx hb dX11_comes_38 ?_
      refine ty_ki (wr := []) (wc := ([(rf_MO mo mw ma mf m0 m1 mu mv u0 u1 iz th mb mn mpt mbg mwr mwk mlf men), (rf_RW ct 0 mw 958 f_5)] ++ ws_78)) (va_runV (As := [.int p1, .int (24 + y_4)]) (rest := []) ⟨hx, hb, hml, hown, hts⟩ (m_of_v l D ct S ws_78 ph xx mo mw ma mf m0 m1 mu mv u0 u1 iz mb th mn mpt mbg mwr mwk mlf men f_5 G cx p1 (24 + y_4) _ hT h_mu h_mv h_u0 h_u1 hph hy1 hR_10 hc (by have := rf_ty (y := y_4) (by have := (show 0 ≤ y_4.toInt ∧ y_4.toInt ≤ 11 from by have := (rf_ps hR_10 hpn).1.2; have := (show 0 ≤ y_4.toInt ∧ y_4.toInt < (G (96 + 37 * (rf_of f p1 1).toInt.toNat)).toInt from ⟨hex_10.1, by rw [← (rf_ps hR_10 hpn).2.1]; exact rf_ylt rfl hc_9⟩); omega); omega); have := (show 0 ≤ y_4.toInt ∧ y_4.toInt ≤ 11 from by have := (rf_ps hR_10 hpn).1.2; have := (show 0 ≤ y_4.toInt ∧ y_4.toInt < (G (96 + 37 * (rf_of f p1 1).toInt.toNat)).toInt from ⟨hex_10.1, by rw [← (rf_ps hR_10 hpn).2.1]; exact rf_ylt rfl hc_9⟩); omega); omega)) (cm_V 2 hts kc_X11_of ki_RX11 kl_RX11_209 kv_X11_of kx_X11_of kd_X11_of ⟨Nat.le_of_ble_eq_true rfl, Nat.le_of_ble_eq_true rfl⟩) (ty_preE (wr := []) (wc := ([(rf_MO mo mw ma mf m0 m1 mu mv u0 u1 iz th mb mn mpt mbg mwr mwk mlf men), (rf_RW ct 0 mw 958 f_5)] ++ ws_78)) (ci := 11) (q0 := 0) hP hK hD hS hA hX rfl rfl) rfl rfl hl.1 rfl (lv_room (Nat.le_of_ble_eq_true rfl)) dX11_comes_39 ⟨Nat.le_of_ble_eq_true rfl, Nat.le_of_ble_eq_true rfl⟩) hP hD hS hA (fun r_146 u H locs hw_147 hP hD hS => ?_)
      obtain ⟨ws_148, rfl⟩ : ∃ z, z = u := ⟨_, rfl⟩
      obtain ⟨hT, rfl⟩ := hw_147
      have hP : va_P D vwCl ([(rf_MO mo mw ma mf m0 m1 mu mv u0 u1 iz th mb mn mpt mbg mwr mwk mlf men), (rf_RW ct 0 mw 958 f_5)] ++ ws_148) H := hP
      have hD : va_D A ([(rf_MO mo mw ma mf m0 m1 mu mv u0 u1 iz th mb mn mpt mbg mwr mwk mlf men), (rf_RW ct 0 mw 958 f_5)] ++ ws_148) := hD
      refine lv_aload_n hx hb dX11_comes_42 rfl (lv_at hl 0 rfl) ?_
      refine lv_iload_n hx hb dX11_comes_43 rfl (lv_at hl 3 rfl) ?_
      refine lv_iload hx hb dX11_comes_44 (lv_at hl 4 rfl) ?_
      refine lv_iconst (v := 2) hx hb dX11_comes_46 (by decide) ?_
      refine ty_ki (wr := []) (wc := ([(rf_MO mo mw ma mf m0 m1 mu mv u0 u1 iz th mb mn mpt mbg mwr mwk mlf men), (rf_RW ct 0 mw 958 f_5)] ++ ws_148)) (va_runV (As := [.int (rf_of f p1 1), .int y_4, .int 2]) (rest := [.int (rf_of f_5 p1 (24 + y_4).toInt.toNat)]) ⟨hx, hb, hml, hown, hts⟩ (m_stepOf_2 l D ct S ws_148 ph xx mo mw ma mf m0 m1 mu mv u0 u1 iz mb th mn mpt mbg mwr mwk mlf men f_5 G cx (rf_of f p1 1) y_4 _ hT h_mu h_mv h_u0 h_u1 hph hy1 hR_10 (rf_p4 hR_10 hp) (by have := (show 0 ≤ y_4.toInt ∧ y_4.toInt < (G (96 + 37 * (rf_of f p1 1).toInt.toNat)).toInt from ⟨hex_10.1, by rw [← (rf_ps hR_10 hpn).2.1]; exact rf_ylt rfl hc_9⟩); have := (show 0 ≤ y_4.toInt ∧ y_4.toInt ≤ 11 from by have := (rf_ps hR_10 hpn).1.2; have := (show 0 ≤ y_4.toInt ∧ y_4.toInt < (G (96 + 37 * (rf_of f p1 1).toInt.toNat)).toInt from ⟨hex_10.1, by rw [← (rf_ps hR_10 hpn).2.1]; exact rf_ylt rfl hc_9⟩); omega); omega)) (cm_V 3 hts kc_X11_stepOf ki_RX11 kl_RX11_218 kv_X11_stepOf kx_X11_stepOf kd_X11_stepOf ⟨Nat.le_of_ble_eq_true rfl, Nat.le_of_ble_eq_true rfl⟩) (ty_preE (wr := []) (wc := ([(rf_MO mo mw ma mf m0 m1 mu mv u0 u1 iz th mb mn mpt mbg mwr mwk mlf men), (rf_RW ct 0 mw 958 f_5)] ++ ws_148)) (ci := 11) (q0 := 0) hP hK hD hS hA hX rfl rfl) rfl rfl hl.1 rfl (lv_room (Nat.le_of_ble_eq_true rfl)) dX11_comes_47 ⟨Nat.le_of_ble_eq_true rfl, Nat.le_of_ble_eq_true rfl⟩) hP hD hS hA (fun r_149 u H locs hw_150 hP hD hS => ?_)
      obtain ⟨ws_151, rfl⟩ : ∃ z, z = u := ⟨_, rfl⟩
      obtain ⟨hT, rfl⟩ := hw_150
      have hP : va_P D vwCl ([(rf_MO mo mw ma mf m0 m1 mu mv u0 u1 iz th mb mn mpt mbg mwr mwk mlf men), (rf_RW ct 0 mw 958 f_5)] ++ ws_151) H := hP
      have hD : va_D A ([(rf_MO mo mw ma mf m0 m1 mu mv u0 u1 iz th mb mn mpt mbg mwr mwk mlf men), (rf_RW ct 0 mw 958 f_5)] ++ ws_151) := hD
      refine lv_icmp_ge (tgt := 88) hx hb dX11_comes_50 (by decide) (fun hc_152 => ?_) (fun hc_152 => ?_)
      · refine lv_aload_n hx hb dX11_comes_88 rfl (lv_at hl 0 rfl) ?_
        refine lv_iload_n hx hb dX11_comes_89 rfl (lv_at hl 1 rfl) ?_
        refine lv_bipush (v := 24) hx hb dX11_comes_90 (by decide) ?_
        refine lv_iload hx hb dX11_comes_92 (lv_at hl 4 rfl) ?_
        refine lv_iadd hx hb dX11_comes_94 ?_
        refine lv_iconst (v := 0) hx hb dX11_comes_95 (by decide) ?_
        refine ty_kv (wr := []) (wc := ([(rf_MO mo mw ma mf m0 m1 mu mv u0 u1 iz th mb mn mpt mbg mwr mwk mlf men), (rf_RW ct 0 mw 958 f_5)] ++ ws_151)) (va_runV (As := [.int p1, .int (24 + y_4), .int 0]) (rest := []) ⟨hx, hb, hml, hown, hts⟩ (m_put_v l D ct S ws_151 ph xx mo mw ma mf m0 m1 mu mv u0 u1 iz mb th mn mpt mbg mwr mwk mlf men f_5 G cx p1 (24 + y_4) (0 : Int32) _ hT h_mu h_mv h_u0 h_u1 hph hy1 hR_10 hc (by have := rf_ty (y := y_4) (by have := (show 0 ≤ y_4.toInt ∧ y_4.toInt ≤ 11 from by have := (rf_ps hR_10 hpn).1.2; have := (show 0 ≤ y_4.toInt ∧ y_4.toInt < (G (96 + 37 * (rf_of f p1 1).toInt.toNat)).toInt from ⟨hex_10.1, by rw [← (rf_ps hR_10 hpn).2.1]; exact rf_ylt rfl hc_9⟩); omega); omega); have := (show 0 ≤ y_4.toInt ∧ y_4.toInt ≤ 11 from by have := (rf_ps hR_10 hpn).1.2; have := (show 0 ≤ y_4.toInt ∧ y_4.toInt < (G (96 + 37 * (rf_of f p1 1).toInt.toNat)).toInt from ⟨hex_10.1, by rw [← (rf_ps hR_10 hpn).2.1]; exact rf_ylt rfl hc_9⟩); omega); omega) (rf_kt (by have := rf_ty (y := y_4) (by have := (show 0 ≤ y_4.toInt ∧ y_4.toInt ≤ 11 from by have := (rf_ps hR_10 hpn).1.2; have := (show 0 ≤ y_4.toInt ∧ y_4.toInt < (G (96 + 37 * (rf_of f p1 1).toInt.toNat)).toInt from ⟨hex_10.1, by rw [← (rf_ps hR_10 hpn).2.1]; exact rf_ylt rfl hc_9⟩); omega); omega); have := (show 0 ≤ y_4.toInt ∧ y_4.toInt ≤ 11 from by have := (rf_ps hR_10 hpn).1.2; have := (show 0 ≤ y_4.toInt ∧ y_4.toInt < (G (96 + 37 * (rf_of f p1 1).toInt.toNat)).toInt from ⟨hex_10.1, by rw [← (rf_ps hR_10 hpn).2.1]; exact rf_ylt rfl hc_9⟩); omega); omega) (by decide))) (cm_V 3 hts kc_X11_put ki_RX11 kl_RX11_234 kv_X11_put kx_X11_put kd_X11_put ⟨Nat.le_of_ble_eq_true rfl, Nat.le_of_ble_eq_true rfl⟩) (ty_preE (wr := []) (wc := ([(rf_MO mo mw ma mf m0 m1 mu mv u0 u1 iz th mb mn mpt mbg mwr mwk mlf men), (rf_RW ct 0 mw 958 f_5)] ++ ws_151)) (ci := 11) (q0 := 0) hP hK hD hS hA hX rfl rfl) rfl rfl hl.1 rfl (lv_room (Nat.le_of_ble_eq_true rfl)) dX11_comes_96 ⟨Nat.le_of_ble_eq_true rfl, Nat.le_of_ble_eq_true rfl⟩) hP hD hS hA (fun u H locs hw_154 hP hD hS => ?_)
        obtain ⟨ws_155, f1_156⟩ := u
        obtain ⟨hT, hp_157⟩ := hw_154
        have hp_157 : rf_d (f_5 8) f_5 f1_156 ∧ rf_R G cx f1_156 ∧ rf_sm f_5 f1_156 ∧ f1_156 = upd f_5 (244 + 54 * p1.toInt.toNat + (24 + y_4).toInt.toNat) (0 : Int32) := hp_157
        obtain ⟨hd_158, hq_159⟩ := hp_157
        have hD_160 := rf_dt hD_10 hd_158
        have hR_161 := hq_159.1
        have hM_162 := rf_smt hM_10 hq_159.2.1
        have hP : va_P D vwCl ([(rf_MO mo mw ma mf m0 m1 mu mv u0 u1 iz th mb mn mpt mbg mwr mwk mlf men), (rf_RW ct 0 mw 958 f1_156)] ++ ws_155) H := hP
        have hD : va_D A ([(rf_MO mo mw ma mf m0 m1 mu mv u0 u1 iz th mb mn mpt mbg mwr mwk mlf men), (rf_RW ct 0 mw 958 f1_156)] ++ ws_155) := hD
        refine lv_iinc (v := (y_4 + Int32.ofInt 1)) (lv' := [(4, .int (y_4 + Int32.ofInt 1)), (0, .ref mo), (1, .int p1), (2, .int p2), (3, .int (rf_of f p1 1))]) hx hb dX11_comes_99 hl (k := 4) rfl rfl (by decide) rfl (fun ls hl => ?_)
        refine lv_goto (tgt := 10) hx hb dX11_comes_102 (by decide) ?_
        exact ih_10 _ _ _ _ (rf_cp hR_10 hc hpn (show 0 ≤ y_4.toInt ∧ y_4.toInt < (G (96 + 37 * (rf_of f p1 1).toInt.toNat)).toInt from ⟨hex_10.1, by rw [← (rf_ps hR_10 hpn).2.1]; exact rf_ylt rfl hc_9⟩) hc_152 hq_159.2.2).1 ⟨ws_155, (y_4 + Int32.ofInt 1), f1_156, rfl, hT, hP, hD, hS, (lv_sub hl [1, 2, 3, 4, 0] rfl), hR_161, hM_162, hD_160, (rf_cp hR_10 hc hpn (show 0 ≤ y_4.toInt ∧ y_4.toInt < (G (96 + 37 * (rf_of f p1 1).toInt.toNat)).toInt from ⟨hex_10.1, by rw [← (rf_ps hR_10 hpn).2.1]; exact rf_ylt rfl hc_9⟩) hc_152 hq_159.2.2).2⟩
      · refine lv_aload_n hx hb dX11_comes_53 rfl (lv_at hl 0 rfl) ?_
        refine lv_iload_n hx hb dX11_comes_54 rfl (lv_at hl 1 rfl) ?_
        refine lv_bipush (v := 24) hx hb dX11_comes_55 (by decide) ?_
        refine lv_iload hx hb dX11_comes_57 (lv_at hl 4 rfl) ?_
        refine lv_iadd hx hb dX11_comes_59 ?_
        refine lv_aload_n hx hb dX11_comes_60 rfl (lv_at hl 0 rfl) ?_
        refine lv_iload_n hx hb dX11_comes_61 rfl (lv_at hl 1 rfl) ?_
        refine lv_bipush (v := 24) hx hb dX11_comes_62 (by decide) ?_
        refine lv_iload hx hb dX11_comes_64 (lv_at hl 4 rfl) ?_
        refine lv_iadd hx hb dX11_comes_66 ?_
        refine ty_ki (wr := []) (wc := ([(rf_MO mo mw ma mf m0 m1 mu mv u0 u1 iz th mb mn mpt mbg mwr mwk mlf men), (rf_RW ct 0 mw 958 f_5)] ++ ws_151)) (va_runV (As := [.int p1, .int (24 + y_4)]) (rest := [.int (24 + y_4), .int p1, .ref mo]) ⟨hx, hb, hml, hown, hts⟩ (m_of_v l D ct S ws_151 ph xx mo mw ma mf m0 m1 mu mv u0 u1 iz mb th mn mpt mbg mwr mwk mlf men f_5 G cx p1 (24 + y_4) _ hT h_mu h_mv h_u0 h_u1 hph hy1 hR_10 hc (by have := rf_ty (y := y_4) (by have := (show 0 ≤ y_4.toInt ∧ y_4.toInt ≤ 11 from by have := (rf_ps hR_10 hpn).1.2; have := (show 0 ≤ y_4.toInt ∧ y_4.toInt < (G (96 + 37 * (rf_of f p1 1).toInt.toNat)).toInt from ⟨hex_10.1, by rw [← (rf_ps hR_10 hpn).2.1]; exact rf_ylt rfl hc_9⟩); omega); omega); have := (show 0 ≤ y_4.toInt ∧ y_4.toInt ≤ 11 from by have := (rf_ps hR_10 hpn).1.2; have := (show 0 ≤ y_4.toInt ∧ y_4.toInt < (G (96 + 37 * (rf_of f p1 1).toInt.toNat)).toInt from ⟨hex_10.1, by rw [← (rf_ps hR_10 hpn).2.1]; exact rf_ylt rfl hc_9⟩); omega); omega)) (cm_V 2 hts kc_X11_of ki_RX11 kl_RX11_209 kv_X11_of kx_X11_of kd_X11_of ⟨Nat.le_of_ble_eq_true rfl, Nat.le_of_ble_eq_true rfl⟩) (ty_preE (wr := []) (wc := ([(rf_MO mo mw ma mf m0 m1 mu mv u0 u1 iz th mb mn mpt mbg mwr mwk mlf men), (rf_RW ct 0 mw 958 f_5)] ++ ws_151)) (ci := 11) (q0 := 0) hP hK hD hS hA hX rfl rfl) rfl rfl hl.1 rfl (lv_room (Nat.le_of_ble_eq_true rfl)) dX11_comes_67 ⟨Nat.le_of_ble_eq_true rfl, Nat.le_of_ble_eq_true rfl⟩) hP hD hS hA (fun r_163 u H locs hw_164 hP hD hS => ?_)
        obtain ⟨ws_165, rfl⟩ : ∃ z, z = u := ⟨_, rfl⟩
        obtain ⟨hT, rfl⟩ := hw_164
        have hP : va_P D vwCl ([(rf_MO mo mw ma mf m0 m1 mu mv u0 u1 iz th mb mn mpt mbg mwr mwk mlf men), (rf_RW ct 0 mw 958 f_5)] ++ ws_165) H := hP
        have hD : va_D A ([(rf_MO mo mw ma mf m0 m1 mu mv u0 u1 iz th mb mn mpt mbg mwr mwk mlf men), (rf_RW ct 0 mw 958 f_5)] ++ ws_165) := hD
        refine lv_iconst (v := 1) hx hb dX11_comes_70 (by decide) ?_
        refine lv_iadd hx hb dX11_comes_71 ?_
        refine ty_kv (wr := []) (wc := ([(rf_MO mo mw ma mf m0 m1 mu mv u0 u1 iz th mb mn mpt mbg mwr mwk mlf men), (rf_RW ct 0 mw 958 f_5)] ++ ws_165)) (va_runV (As := [.int p1, .int (24 + y_4), .int ((rf_of f_5 p1 (24 + y_4).toInt.toNat) + 1)]) (rest := []) ⟨hx, hb, hml, hown, hts⟩ (m_put_v l D ct S ws_165 ph xx mo mw ma mf m0 m1 mu mv u0 u1 iz mb th mn mpt mbg mwr mwk mlf men f_5 G cx p1 (24 + y_4) ((rf_of f_5 p1 (24 + y_4).toInt.toNat) + 1) _ hT h_mu h_mv h_u0 h_u1 hph hy1 hR_10 hc (by have := rf_ty (y := y_4) (by have := (show 0 ≤ y_4.toInt ∧ y_4.toInt ≤ 11 from by have := (rf_ps hR_10 hpn).1.2; have := (show 0 ≤ y_4.toInt ∧ y_4.toInt < (G (96 + 37 * (rf_of f p1 1).toInt.toNat)).toInt from ⟨hex_10.1, by rw [← (rf_ps hR_10 hpn).2.1]; exact rf_ylt rfl hc_9⟩); omega); omega); have := (show 0 ≤ y_4.toInt ∧ y_4.toInt ≤ 11 from by have := (rf_ps hR_10 hpn).1.2; have := (show 0 ≤ y_4.toInt ∧ y_4.toInt < (G (96 + 37 * (rf_of f p1 1).toInt.toNat)).toInt from ⟨hex_10.1, by rw [← (rf_ps hR_10 hpn).2.1]; exact rf_ylt rfl hc_9⟩); omega); omega) (rf_kt (by have := rf_ty (y := y_4) (by have := (show 0 ≤ y_4.toInt ∧ y_4.toInt ≤ 11 from by have := (rf_ps hR_10 hpn).1.2; have := (show 0 ≤ y_4.toInt ∧ y_4.toInt < (G (96 + 37 * (rf_of f p1 1).toInt.toNat)).toInt from ⟨hex_10.1, by rw [← (rf_ps hR_10 hpn).2.1]; exact rf_ylt rfl hc_9⟩); omega); omega); have := (show 0 ≤ y_4.toInt ∧ y_4.toInt ≤ 11 from by have := (rf_ps hR_10 hpn).1.2; have := (show 0 ≤ y_4.toInt ∧ y_4.toInt < (G (96 + 37 * (rf_of f p1 1).toInt.toNat)).toInt from ⟨hex_10.1, by rw [← (rf_ps hR_10 hpn).2.1]; exact rf_ylt rfl hc_9⟩); omega); omega) (rf_t1 hR_10 hc (by have := (show 0 ≤ y_4.toInt ∧ y_4.toInt < (G (96 + 37 * (rf_of f p1 1).toInt.toNat)).toInt from ⟨hex_10.1, by rw [← (rf_ps hR_10 hpn).2.1]; exact rf_ylt rfl hc_9⟩); have := (show 0 ≤ y_4.toInt ∧ y_4.toInt ≤ 11 from by have := (rf_ps hR_10 hpn).1.2; have := (show 0 ≤ y_4.toInt ∧ y_4.toInt < (G (96 + 37 * (rf_of f p1 1).toInt.toNat)).toInt from ⟨hex_10.1, by rw [← (rf_ps hR_10 hpn).2.1]; exact rf_ylt rfl hc_9⟩); omega); omega) (rf_sb hR_10 hpn (by have := (show 0 ≤ y_4.toInt ∧ y_4.toInt < (G (96 + 37 * (rf_of f p1 1).toInt.toNat)).toInt from ⟨hex_10.1, by rw [← (rf_ps hR_10 hpn).2.1]; exact rf_ylt rfl hc_9⟩); have := (show 0 ≤ y_4.toInt ∧ y_4.toInt ≤ 11 from by have := (rf_ps hR_10 hpn).1.2; have := (show 0 ≤ y_4.toInt ∧ y_4.toInt < (G (96 + 37 * (rf_of f p1 1).toInt.toNat)).toInt from ⟨hex_10.1, by rw [← (rf_ps hR_10 hpn).2.1]; exact rf_ylt rfl hc_9⟩); omega); omega) (by omega)) hc_152))) (cm_V 3 hts kc_X11_put ki_RX11 kl_RX11_234 kv_X11_put kx_X11_put kd_X11_put ⟨Nat.le_of_ble_eq_true rfl, Nat.le_of_ble_eq_true rfl⟩) (ty_preE (wr := []) (wc := ([(rf_MO mo mw ma mf m0 m1 mu mv u0 u1 iz th mb mn mpt mbg mwr mwk mlf men), (rf_RW ct 0 mw 958 f_5)] ++ ws_165)) (ci := 11) (q0 := 0) hP hK hD hS hA hX rfl rfl) rfl rfl hl.1 rfl (lv_room (Nat.le_of_ble_eq_true rfl)) dX11_comes_72 ⟨Nat.le_of_ble_eq_true rfl, Nat.le_of_ble_eq_true rfl⟩) hP hD hS hA (fun u H locs hw_167 hP hD hS => ?_)
        obtain ⟨ws_168, f1_169⟩ := u
        obtain ⟨hT, hp_170⟩ := hw_167
        have hp_170 : rf_d (f_5 8) f_5 f1_169 ∧ rf_R G cx f1_169 ∧ rf_sm f_5 f1_169 ∧ f1_169 = upd f_5 (244 + 54 * p1.toInt.toNat + (24 + y_4).toInt.toNat) ((rf_of f_5 p1 (24 + y_4).toInt.toNat) + 1) := hp_170
        obtain ⟨hd_171, hq_172⟩ := hp_170
        have hD_173 := rf_dt hD_10 hd_171
        have hR_174 := hq_172.1
        have hM_175 := rf_smt hM_10 hq_172.2.1
        have hP : va_P D vwCl ([(rf_MO mo mw ma mf m0 m1 mu mv u0 u1 iz th mb mn mpt mbg mwr mwk mlf men), (rf_RW ct 0 mw 958 f1_169)] ++ ws_168) H := hP
        have hD : va_D A ([(rf_MO mo mw ma mf m0 m1 mu mv u0 u1 iz th mb mn mpt mbg mwr mwk mlf men), (rf_RW ct 0 mw 958 f1_169)] ++ ws_168) := hD
        refine lv_aload_n hx hb dX11_comes_75 rfl (lv_at hl 0 rfl) ?_
        refine lv_iload_n hx hb dX11_comes_76 rfl (lv_at hl 3 rfl) ?_
        refine lv_iload hx hb dX11_comes_77 (lv_at hl 4 rfl) ?_
        refine lv_iconst (v := 1) hx hb dX11_comes_79 (by decide) ?_
        refine ty_ki (wr := []) (wc := ([(rf_MO mo mw ma mf m0 m1 mu mv u0 u1 iz th mb mn mpt mbg mwr mwk mlf men), (rf_RW ct 0 mw 958 f1_169)] ++ ws_168)) (va_runV (As := [.int (rf_of f p1 1), .int y_4, .int 1]) (rest := []) ⟨hx, hb, hml, hown, hts⟩ (m_stepOf_1 l D ct S ws_168 ph xx mo mw ma mf m0 m1 mu mv u0 u1 iz mb th mn mpt mbg mwr mwk mlf men f1_169 G cx (rf_of f p1 1) y_4 _ hT h_mu h_mv h_u0 h_u1 hph hy1 hR_174 (rf_p4 hR_174 hp) (by have := (show 0 ≤ y_4.toInt ∧ y_4.toInt < (G (96 + 37 * (rf_of f p1 1).toInt.toNat)).toInt from ⟨hex_10.1, by rw [← (rf_ps hR_10 hpn).2.1]; exact rf_ylt rfl hc_9⟩); have := (show 0 ≤ y_4.toInt ∧ y_4.toInt ≤ 11 from by have := (rf_ps hR_10 hpn).1.2; have := (show 0 ≤ y_4.toInt ∧ y_4.toInt < (G (96 + 37 * (rf_of f p1 1).toInt.toNat)).toInt from ⟨hex_10.1, by rw [← (rf_ps hR_10 hpn).2.1]; exact rf_ylt rfl hc_9⟩); omega); omega)) (cm_V 3 hts kc_X11_stepOf ki_RX11 kl_RX11_218 kv_X11_stepOf kx_X11_stepOf kd_X11_stepOf ⟨Nat.le_of_ble_eq_true rfl, Nat.le_of_ble_eq_true rfl⟩) (ty_preE (wr := []) (wc := ([(rf_MO mo mw ma mf m0 m1 mu mv u0 u1 iz th mb mn mpt mbg mwr mwk mlf men), (rf_RW ct 0 mw 958 f1_169)] ++ ws_168)) (ci := 11) (q0 := 0) hP hK hD hS hA hX rfl rfl) rfl rfl hl.1 rfl (lv_room (Nat.le_of_ble_eq_true rfl)) dX11_comes_80 ⟨Nat.le_of_ble_eq_true rfl, Nat.le_of_ble_eq_true rfl⟩) hP hD hS hA (fun r_176 u H locs hw_177 hP hD hS => ?_)
        obtain ⟨ws_178, rfl⟩ : ∃ z, z = u := ⟨_, rfl⟩
        obtain ⟨hT, rfl⟩ := hw_177
        have hP : va_P D vwCl ([(rf_MO mo mw ma mf m0 m1 mu mv u0 u1 iz th mb mn mpt mbg mwr mwk mlf men), (rf_RW ct 0 mw 958 f1_169)] ++ ws_178) H := hP
        have hD : va_D A ([(rf_MO mo mw ma mf m0 m1 mu mv u0 u1 iz th mb mn mpt mbg mwr mwk mlf men), (rf_RW ct 0 mw 958 f1_169)] ++ ws_178) := hD
        refine lv_istore (lv' := [(4, .int (f1_169 (97 + 37 * (rf_of f p1 1).toInt.toNat + 3 * y_4.toInt.toNat + 1))), (0, .ref mo), (1, .int p1), (2, .int p2), (3, .int (rf_of f p1 1))]) hx hb dX11_comes_83 hl (by decide) rfl (fun ls hl => ?_)
        refine lv_goto (tgt := 10) hx hb dX11_comes_85 (by decide) ?_
        exact ih_10 _ _ _ _ (rf_cb hR_10 hc hpn (show 0 ≤ y_4.toInt ∧ y_4.toInt < (G (96 + 37 * (rf_of f p1 1).toInt.toNat)).toInt from ⟨hex_10.1, by rw [← (rf_ps hR_10 hpn).2.1]; exact rf_ylt rfl hc_9⟩) hc_79 hc_152 hq_172.2.2 rfl).1 ⟨ws_178, (f1_169 (97 + 37 * (rf_of f p1 1).toInt.toNat + 3 * y_4.toInt.toNat + 1)), f1_169, rfl, hT, hP, hD, hS, (lv_sub hl [1, 2, 3, 4, 0] rfl), hR_174, hM_175, hD_173, (rf_cb hR_10 hc hpn (show 0 ≤ y_4.toInt ∧ y_4.toInt < (G (96 + 37 * (rf_of f p1 1).toInt.toNat)).toInt from ⟨hex_10.1, by rw [← (rf_ps hR_10 hpn).2.1]; exact rf_ylt rfl hc_9⟩) hc_79 hc_152 hq_172.2.2 rfl).2⟩
