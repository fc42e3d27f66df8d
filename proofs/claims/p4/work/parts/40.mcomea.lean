theorem dX11_leavesQueue_0 : decode cX11_leavesQueue 0 = .ok (.aload_n 0, 1) := by decide +kernel
theorem dX11_leavesQueue_1 : decode cX11_leavesQueue 1 = .ok (.iload_n 1, 1) := by decide +kernel
theorem dX11_leavesQueue_2 : decode cX11_leavesQueue 2 = .ok (.bipush 40, 2) := by decide +kernel
theorem dX11_leavesQueue_4 : decode cX11_leavesQueue 4 = .ok (.invokevirtual 209, 3) := by decide +kernel
theorem dX11_leavesQueue_7 : decode cX11_leavesQueue 7 = .ok (.istore_n 2, 1) := by decide +kernel
theorem dX11_leavesQueue_8 : decode cX11_leavesQueue 8 = .ok (.iconst 0, 1) := by decide +kernel
theorem dX11_leavesQueue_9 : decode cX11_leavesQueue 9 = .ok (.istore_n 3, 1) := by decide +kernel
theorem dX11_leavesQueue_10 : decode cX11_leavesQueue 10 = .ok (.iload_n 3, 1) := by decide +kernel
theorem dX11_leavesQueue_11 : decode cX11_leavesQueue 11 = .ok (.iconst 1, 1) := by decide +kernel
theorem dX11_leavesQueue_12 : decode cX11_leavesQueue 12 = .ok (.iadd, 1) := by decide +kernel
theorem dX11_leavesQueue_13 : decode cX11_leavesQueue 13 = .ok (.iconst 4, 1) := by decide +kernel
theorem dX11_leavesQueue_14 : decode cX11_leavesQueue 14 = .ok (.if_icmp .ge 29, 3) := by decide +kernel
theorem dX11_leavesQueue_17 : decode cX11_leavesQueue 17 = .ok (.aload_n 0, 1) := by decide +kernel
theorem dX11_leavesQueue_18 : decode cX11_leavesQueue 18 = .ok (.iload_n 1, 1) := by decide +kernel
theorem dX11_leavesQueue_19 : decode cX11_leavesQueue 19 = .ok (.bipush 40, 2) := by decide +kernel
theorem dX11_leavesQueue_21 : decode cX11_leavesQueue 21 = .ok (.iload_n 3, 1) := by decide +kernel
theorem dX11_leavesQueue_22 : decode cX11_leavesQueue 22 = .ok (.iadd, 1) := by decide +kernel
theorem dX11_leavesQueue_23 : decode cX11_leavesQueue 23 = .ok (.aload_n 0, 1) := by decide +kernel
theorem dX11_leavesQueue_24 : decode cX11_leavesQueue 24 = .ok (.iload_n 1, 1) := by decide +kernel
theorem dX11_leavesQueue_25 : decode cX11_leavesQueue 25 = .ok (.bipush 40, 2) := by decide +kernel
theorem dX11_leavesQueue_27 : decode cX11_leavesQueue 27 = .ok (.iload_n 3, 1) := by decide +kernel
theorem dX11_leavesQueue_28 : decode cX11_leavesQueue 28 = .ok (.iadd, 1) := by decide +kernel
theorem dX11_leavesQueue_29 : decode cX11_leavesQueue 29 = .ok (.iconst 1, 1) := by decide +kernel
theorem dX11_leavesQueue_30 : decode cX11_leavesQueue 30 = .ok (.iadd, 1) := by decide +kernel
theorem dX11_leavesQueue_31 : decode cX11_leavesQueue 31 = .ok (.invokevirtual 209, 3) := by decide +kernel
theorem dX11_leavesQueue_34 : decode cX11_leavesQueue 34 = .ok (.invokevirtual 234, 3) := by decide +kernel
theorem dX11_leavesQueue_37 : decode cX11_leavesQueue 37 = .ok (.iinc 3 1, 3) := by decide +kernel
theorem dX11_leavesQueue_40 : decode cX11_leavesQueue 40 = .ok (.goto (-30), 3) := by decide +kernel
theorem dX11_leavesQueue_43 : decode cX11_leavesQueue 43 = .ok (.aload_n 0, 1) := by decide +kernel
theorem dX11_leavesQueue_44 : decode cX11_leavesQueue 44 = .ok (.iload_n 1, 1) := by decide +kernel
theorem dX11_leavesQueue_45 : decode cX11_leavesQueue 45 = .ok (.bipush 39, 2) := by decide +kernel
theorem dX11_leavesQueue_47 : decode cX11_leavesQueue 47 = .ok (.aload_n 0, 1) := by decide +kernel
theorem dX11_leavesQueue_48 : decode cX11_leavesQueue 48 = .ok (.iload_n 1, 1) := by decide +kernel
theorem dX11_leavesQueue_49 : decode cX11_leavesQueue 49 = .ok (.bipush 39, 2) := by decide +kernel
theorem dX11_leavesQueue_51 : decode cX11_leavesQueue 51 = .ok (.invokevirtual 209, 3) := by decide +kernel
theorem dX11_leavesQueue_54 : decode cX11_leavesQueue 54 = .ok (.iconst 1, 1) := by decide +kernel
theorem dX11_leavesQueue_55 : decode cX11_leavesQueue 55 = .ok (.isub, 1) := by decide +kernel
theorem dX11_leavesQueue_56 : decode cX11_leavesQueue 56 = .ok (.invokevirtual 234, 3) := by decide +kernel
theorem dX11_leavesQueue_59 : decode cX11_leavesQueue 59 = .ok (.iload_n 2, 1) := by decide +kernel
theorem dX11_leavesQueue_60 : decode cX11_leavesQueue 60 = .ok (.ireturn, 1) := by decide +kernel
set_option maxRecDepth 100000 in
set_option maxHeartbeats 4000000 in
theorem m_X11_leavesQueue (l : Launch) (D : va_G) (ct : Nat → ClassId) (S : ty_S) (ws : va_W) (ph : va_W → Prop) (xx : Nat → Nat → Nat → Prop) (mo : Nat) (mw : Nat) (ma : Nat) (mf : Nat) (m0 : Nat) (m1 : Nat) (mu : Nat) (mv : Nat) (u0 : Nat) (u1 : Nat) (iz : Nat) (mb : Nat) (th : Int32) (mn : Int32) (mpt : Int32) (mbg : Int32) (mwr : Int32) (mwk : Int32) (mlf : Int32) (men : Int32) (f : Nat → Int32) (G : Nat → Int32) (cx : Int) (p1 : Int32) (sz : Nat) (hT : ty_V ct S ph ws) (h_mu : S mu = some (.inr (1, 42))) (h_mv : S mv = some (.inr (1, 42))) (h_u0 : S u0 = some (.inr (1, 42))) (h_u1 : S u1 = some (.inr (1, 42))) (hph : ty_C ph xx) (hy1 : ty_y1 xx) (hR : rf_R G cx f) (hc : 0 ≤ p1.toInt ∧ p1.toInt < (G 9).toInt) (hq : 1 ≤ (rf_of f p1 39).toInt) : Met l yX11_leavesQueue (ws_ yX11_leavesQueue cX11_leavesQueue 4 (some .int)) ({ frames := 1, cells := 0, slots := 0, locals := 23 } : Room) (va_Pc [.ref mo, .int p1] (cmP D ct sz ([(rf_MO mo mw ma mf m0 m1 mu mv u0 u1 iz th mb mn mpt mbg mwr mwk mlf men), (rf_RW ct 0 mw 958 f)] ++ ws))) (va_Qi (fun (r : Int32) (u : va_W × (Nat → Int32)) => match u with | (u9, f1) => ty_V ct S ph u9 ∧ rf_R G cx f1 ∧ rf_sm f f1 ∧ 0 ≤ r.toInt ∧ r.toInt < (G 10).toInt) (cmB D ([(rf_MO mo mw ma mf m0 m1 mu mv u0 u1 iz th mb mn mpt mbg mwr mwk mlf men), (rf_RW ct 0 mw 958 f)] ++ ws) sz (fun (u : va_W × (Nat → Int32)) => match u with | (u9, f1) => ([(rf_MO mo mw ma mf m0 m1 mu mv u0 u1 iz th mb mn mpt mbg mwr mwk mlf men), (rf_RW ct 0 mw 958 f1)] ++ u9))) (va_A ([(rf_MO mo mw ma mf m0 m1 mu mv u0 u1 iz th mb mn mpt mbg mwr mwk mlf men), (rf_RW ct 0 mw 958 f)] ++ ws) sz)) 0 0 (va_A ([(rf_MO mo mw ma mf m0 m1 mu mv u0 u1 iz th mb mn mpt mbg mwr mwk mlf men), (rf_RW ct 0 mw 958 f)] ++ ws) sz) := by
  refine Met.ofW (cc := cX11_leavesQueue) (maxL := 4) (ret := (some .int)) (by decide) rfl ?_
  intro p e s m args below meth c s₁ B hml hv
  obtain ⟨rfl, hsz, hP, hK, hD0, hX⟩ := hv
  have hx := B.exec
  have hb := B.bytes
  have hr := B.returns
  have hts := ws_all (atoms_spec (ws := ws_ yX11_leavesQueue cX11_leavesQueue 4 (some .int)) B.pre)
  have hown : s.vm.findClass RX11 = some m.cls := findClass_of_methodNamed B.named
  have hlocks := B.notSynchronized
  subst hsz
  have hD := hD0.self (sz := s.heap.size)
  generalize hAe : va_A ([(rf_MO mo mw ma mf m0 m1 mu mv u0 u1 iz th mb mn mpt mbg mwr mwk mlf men), (rf_RW ct 0 mw 958 f)] ++ ws) s.heap.size = A at hD hX ⊢
  have hA : ∀ q : Nat, s.heap.size ≤ q → A q := fun q h => by rw [← hAe]; exact Or.inr h
  have hS : va_S A s.heap s.heap [] := va_S.rf
  have hl := lv_entry ([.ref mo, .int p1]) (n := 4) (Nat.le_of_ble_eq_true rfl)
  rw [lg_entry_eq]
  generalize (lg_sl ([.ref mo, .int p1]) ++ List.replicate (4 - (lg_sl ([.ref mo, .int p1])).length) Slot.unset).toArray = ls at hl ⊢
  have hl : lv_has ls 4 [(0, .ref mo), (1, .int p1)] := hl
  refine lv_aload_n hx hb dX11_leavesQueue_0 rfl (lv_at hl 0 rfl) ?_
  refine lv_iload_n hx hb dX11_leavesQueue_1 rfl (lv_at hl 1 rfl) ?_
  refine lv_bipush (v := 40) hx hb dX11_leavesQueue_2 (by decide) ?_
  refine ty_ki (wr := []) (wc := ([(rf_MO mo mw ma mf m0 m1 mu mv u0 u1 iz th mb mn mpt mbg mwr mwk mlf men), (rf_RW ct 0 mw 958 f)] ++ ws)) (va_runV (As := [.int p1, .int 40]) (rest := []) ⟨hx, hb, hml, hown, hts⟩ (m_of_40 l D ct S ws ph xx mo mw ma mf m0 m1 mu mv u0 u1 iz mb th mn mpt mbg mwr mwk mlf men f G cx p1 _ hT h_mu h_mv h_u0 h_u1 hph hy1 hR hc) (cm_V 2 hts kc_X11_of ki_RX11 kl_RX11_209 kv_X11_of kx_X11_of kd_X11_of ⟨Nat.le_of_ble_eq_true rfl, Nat.le_of_ble_eq_true rfl⟩) (ty_preE (wr := []) (wc := ([(rf_MO mo mw ma mf m0 m1 mu mv u0 u1 iz th mb mn mpt mbg mwr mwk mlf men), (rf_RW ct 0 mw 958 f)] ++ ws)) (ci := 11) (q0 := 0) hP hK hD hS hA hX rfl rfl) rfl rfl hl.1 rfl (lv_room (Nat.le_of_ble_eq_true rfl)) dX11_leavesQueue_4 ⟨Nat.le_of_ble_eq_true rfl, Nat.le_of_ble_eq_true rfl⟩) hP hD hS hA (fun r_1 u H locs hw_2 hP hD hS => ?_)
  obtain ⟨ws_3, rfl⟩ : ∃ z, z = u := ⟨_, rfl⟩
  obtain ⟨hT, rfl⟩ := hw_2
  have hP : va_P D vwCl ([(rf_MO mo mw ma mf m0 m1 mu mv u0 u1 iz th mb mn mpt mbg mwr mwk mlf men), (rf_RW ct 0 mw 958 f)] ++ ws_3) H := hP
  have hD : va_D A ([(rf_MO mo mw ma mf m0 m1 mu mv u0 u1 iz th mb mn mpt mbg mwr mwk mlf men), (rf_RW ct 0 mw 958 f)] ++ ws_3) := hD
  refine lv_istore_n (lv' := [(2, .int (rf_of f p1 40)), (0, .ref mo), (1, .int p1)]) hx hb dX11_leavesQueue_7 rfl hl (by decide) rfl (fun ls hl => ?_)
  refine lv_iconst (v := 0) hx hb dX11_leavesQueue_8 (by decide) ?_
  refine lv_istore_n (lv' := [(3, .int 0), (2, .int (rf_of f p1 40)), (0, .ref mo), (1, .int p1)]) hx hb dX11_leavesQueue_9 rfl hl (by decide) rfl (fun ls hl => ?_)
  refine lv_iload_n hx hb dX11_leavesQueue_10 rfl (lv_at hl 0 rfl) ?_
  refine lv_iconst (v := 1) hx hb dX11_leavesQueue_11 (by decide) ?_
  refine lv_iadd hx hb dX11_leavesQueue_12 ?_
  refine cm_cst (y := 1) (by decide) ?_
  refine lv_iconst (v := 4) hx hb dX11_leavesQueue_13 (by decide) ?_
  refine lv_icmp_ge (tgt := 43) hx hb dX11_leavesQueue_14 (by decide) (fun hc => absurd hc (by decide)) (fun _ => ?_)
  refine lv_aload_n hx hb dX11_leavesQueue_17 rfl (lv_at hl 2 rfl) ?_
  refine lv_iload_n hx hb dX11_leavesQueue_18 rfl (lv_at hl 3 rfl) ?_
  refine lv_bipush (v := 40) hx hb dX11_leavesQueue_19 (by decide) ?_
  refine lv_iload_n hx hb dX11_leavesQueue_21 rfl (lv_at hl 0 rfl) ?_
  refine lv_iadd hx hb dX11_leavesQueue_22 ?_
  refine cm_cst (y := 40) (by decide) ?_
  refine lv_aload_n hx hb dX11_leavesQueue_23 rfl (lv_at hl 2 rfl) ?_
  refine lv_iload_n hx hb dX11_leavesQueue_24 rfl (lv_at hl 3 rfl) ?_
  refine lv_bipush (v := 40) hx hb dX11_leavesQueue_25 (by decide) ?_
  refine lv_iload_n hx hb dX11_leavesQueue_27 rfl (lv_at hl 0 rfl) ?_
  refine lv_iadd hx hb dX11_leavesQueue_28 ?_
  refine cm_cst (y := 40) (by decide) ?_
  refine lv_iconst (v := 1) hx hb dX11_leavesQueue_29 (by decide) ?_
  refine lv_iadd hx hb dX11_leavesQueue_30 ?_
  refine cm_cst (y := 41) (by decide) ?_
  refine ty_ki (wr := []) (wc := ([(rf_MO mo mw ma mf m0 m1 mu mv u0 u1 iz th mb mn mpt mbg mwr mwk mlf men), (rf_RW ct 0 mw 958 f)] ++ ws_3)) (va_runV (As := [.int p1, .int 41]) (rest := [.int 40, .int p1, .ref mo]) ⟨hx, hb, hml, hown, hts⟩ (m_of_41 l D ct S ws_3 ph xx mo mw ma mf m0 m1 mu mv u0 u1 iz mb th mn mpt mbg mwr mwk mlf men f G cx p1 _ hT h_mu h_mv h_u0 h_u1 hph hy1 hR hc) (cm_V 2 hts kc_X11_of ki_RX11 kl_RX11_209 kv_X11_of kx_X11_of kd_X11_of ⟨Nat.le_of_ble_eq_true rfl, Nat.le_of_ble_eq_true rfl⟩) (ty_preE (wr := []) (wc := ([(rf_MO mo mw ma mf m0 m1 mu mv u0 u1 iz th mb mn mpt mbg mwr mwk mlf men), (rf_RW ct 0 mw 958 f)] ++ ws_3)) (ci := 11) (q0 := 0) hP hK hD hS hA hX rfl rfl) rfl rfl hl.1 rfl (lv_room (Nat.le_of_ble_eq_true rfl)) dX11_leavesQueue_31 ⟨Nat.le_of_ble_eq_true rfl, Nat.le_of_ble_eq_true rfl⟩) hP hD hS hA (fun r_4 u H locs hw_5 hP hD hS => ?_)
  obtain ⟨ws_6, rfl⟩ : ∃ z, z = u := ⟨_, rfl⟩
  obtain ⟨hT, rfl⟩ := hw_5
  have hP : va_P D vwCl ([(rf_MO mo mw ma mf m0 m1 mu mv u0 u1 iz th mb mn mpt mbg mwr mwk mlf men), (rf_RW ct 0 mw 958 f)] ++ ws_6) H := hP
  have hD : va_D A ([(rf_MO mo mw ma mf m0 m1 mu mv u0 u1 iz th mb mn mpt mbg mwr mwk mlf men), (rf_RW ct 0 mw 958 f)] ++ ws_6) := hD
  refine ty_kv (wr := []) (wc := ([(rf_MO mo mw ma mf m0 m1 mu mv u0 u1 iz th mb mn mpt mbg mwr mwk mlf men), (rf_RW ct 0 mw 958 f)] ++ ws_6)) (va_runV (As := [.int p1, .int 40, .int (rf_of f p1 41)]) (rest := []) ⟨hx, hb, hml, hown, hts⟩ (m_put_40 l D ct S ws_6 ph xx mo mw ma mf m0 m1 mu mv u0 u1 iz mb th mn mpt mbg mwr mwk mlf men f G cx p1 (rf_of f p1 41) _ hT h_mu h_mv h_u0 h_u1 hph hy1 hR hc (fun _ => (rf_q40 hR hc).2.1)) (cm_V 3 hts kc_X11_put ki_RX11 kl_RX11_234 kv_X11_put kx_X11_put kd_X11_put ⟨Nat.le_of_ble_eq_true rfl, Nat.le_of_ble_eq_true rfl⟩) (ty_preE (wr := []) (wc := ([(rf_MO mo mw ma mf m0 m1 mu mv u0 u1 iz th mb mn mpt mbg mwr mwk mlf men), (rf_RW ct 0 mw 958 f)] ++ ws_6)) (ci := 11) (q0 := 0) hP hK hD hS hA hX rfl rfl) rfl rfl hl.1 rfl (lv_room (Nat.le_of_ble_eq_true rfl)) dX11_leavesQueue_34 ⟨Nat.le_of_ble_eq_true rfl, Nat.le_of_ble_eq_true rfl⟩) hP hD hS hA (fun u H locs hw_8 hP hD hS => ?_)
  obtain ⟨ws_9, f1_10⟩ := u
  obtain ⟨hT, hp_11⟩ := hw_8
  have hp_11 : rf_R G cx f1_10 ∧ rf_sm f f1_10 ∧ f1_10 = upd f (244 + 54 * p1.toInt.toNat + 40) (rf_of f p1 41) := hp_11
  have hR_12 := hp_11.1
  have hM_13 := rf_smt (rf_smr f) hp_11.2.1
  have hP : va_P D vwCl ([(rf_MO mo mw ma mf m0 m1 mu mv u0 u1 iz th mb mn mpt mbg mwr mwk mlf men), (rf_RW ct 0 mw 958 f1_10)] ++ ws_9) H := hP
  have hD : va_D A ([(rf_MO mo mw ma mf m0 m1 mu mv u0 u1 iz th mb mn mpt mbg mwr mwk mlf men), (rf_RW ct 0 mw 958 f1_10)] ++ ws_9) := hD
  have hq9_14 : rf_of f1_10 p1 39 = rf_of f p1 39 := by rw [hp_11.2.2]; exact (rf_ne (by decide)).trans rfl
  refine lv_iinc (v := 1) (lv' := [(3, .int 1), (2, .int (rf_of f p1 40)), (0, .ref mo), (1, .int p1)]) hx hb dX11_leavesQueue_37 hl (k := 0) rfl (by decide) (by decide) rfl (fun ls hl => ?_)
  refine lv_goto (tgt := 10) hx hb dX11_leavesQueue_40 (by decide) ?_
  refine lv_iload_n hx hb dX11_leavesQueue_10 rfl (lv_at hl 0 rfl) ?_
  refine lv_iconst (v := 1) hx hb dX11_leavesQueue_11 (by decide) ?_
  refine lv_iadd hx hb dX11_leavesQueue_12 ?_
  refine cm_cst (y := 2) (by decide) ?_
  refine lv_iconst (v := 4) hx hb dX11_leavesQueue_13 (by decide) ?_
  refine lv_icmp_ge (tgt := 43) hx hb dX11_leavesQueue_14 (by decide) (fun hc => absurd hc (by decide)) (fun _ => ?_)
  refine lv_aload_n hx hb dX11_leavesQueue_17 rfl (lv_at hl 2 rfl) ?_
  refine lv_iload_n hx hb dX11_leavesQueue_18 rfl (lv_at hl 3 rfl) ?_
  refine lv_bipush (v := 40) hx hb dX11_leavesQueue_19 (by decide) ?_
  refine lv_iload_n hx hb dX11_leavesQueue_21 rfl (lv_at hl 0 rfl) ?_
  refine lv_iadd hx hb dX11_leavesQueue_22 ?_
  refine cm_cst (y := 41) (by decide) ?_
  refine lv_aload_n hx hb dX11_leavesQueue_23 rfl (lv_at hl 2 rfl) ?_
  refine lv_iload_n hx hb dX11_leavesQueue_24 rfl (lv_at hl 3 rfl) ?_
  refine lv_bipush (v := 40) hx hb dX11_leavesQueue_25 (by decide) ?_
  refine lv_iload_n hx hb dX11_leavesQueue_27 rfl (lv_at hl 0 rfl) ?_
  refine lv_iadd hx hb dX11_leavesQueue_28 ?_
  refine cm_cst (y := 41) (by decide) ?_
  refine lv_iconst (v := 1) hx hb dX11_leavesQueue_29 (by decide) ?_
  refine lv_iadd hx hb dX11_leavesQueue_30 ?_
  refine cm_cst (y := 42) (by decide) ?_
  refine ty_ki (wr := []) (wc := ([(rf_MO mo mw ma mf m0 m1 mu mv u0 u1 iz th mb mn mpt mbg mwr mwk mlf men), (rf_RW ct 0 mw 958 f1_10)] ++ ws_9)) (va_runV (As := [.int p1, .int 42]) (rest := [.int 41, .int p1, .ref mo]) ⟨hx, hb, hml, hown, hts⟩ (m_of_42 l D ct S ws_9 ph xx mo mw ma mf m0 m1 mu mv u0 u1 iz mb th mn mpt mbg mwr mwk mlf men f1_10 G cx p1 _ hT h_mu h_mv h_u0 h_u1 hph hy1 hR_12 hc) (cm_V 2 hts kc_X11_of ki_RX11 kl_RX11_209 kv_X11_of kx_X11_of kd_X11_of ⟨Nat.le_of_ble_eq_true rfl, Nat.le_of_ble_eq_true rfl⟩) (ty_preE (wr := []) (wc := ([(rf_MO mo mw ma mf m0 m1 mu mv u0 u1 iz th mb mn mpt mbg mwr mwk mlf men), (rf_RW ct 0 mw 958 f1_10)] ++ ws_9)) (ci := 11) (q0 := 0) hP hK hD hS hA hX rfl rfl) rfl rfl hl.1 rfl (lv_room (Nat.le_of_ble_eq_true rfl)) dX11_leavesQueue_31 ⟨Nat.le_of_ble_eq_true rfl, Nat.le_of_ble_eq_true rfl⟩) hP hD hS hA (fun r_15 u H locs hw_16 hP hD hS => ?_)
  obtain ⟨ws_17, rfl⟩ : ∃ z, z = u := ⟨_, rfl⟩
  obtain ⟨hT, rfl⟩ := hw_16
  have hP : va_P D vwCl ([(rf_MO mo mw ma mf m0 m1 mu mv u0 u1 iz th mb mn mpt mbg mwr mwk mlf men), (rf_RW ct 0 mw 958 f1_10)] ++ ws_17) H := hP
  have hD : va_D A ([(rf_MO mo mw ma mf m0 m1 mu mv u0 u1 iz th mb mn mpt mbg mwr mwk mlf men), (rf_RW ct 0 mw 958 f1_10)] ++ ws_17) := hD
  refine ty_kv (wr := []) (wc := ([(rf_MO mo mw ma mf m0 m1 mu mv u0 u1 iz th mb mn mpt mbg mwr mwk mlf men), (rf_RW ct 0 mw 958 f1_10)] ++ ws_17)) (va_runV (As := [.int p1, .int 41, .int (rf_of f1_10 p1 42)]) (rest := []) ⟨hx, hb, hml, hown, hts⟩ (m_put_41 l D ct S ws_17 ph xx mo mw ma mf m0 m1 mu mv u0 u1 iz mb th mn mpt mbg mwr mwk mlf men f1_10 G cx p1 (rf_of f1_10 p1 42) _ hT h_mu h_mv h_u0 h_u1 hph hy1 hR_12 hc (fun _ => (rf_q40 hR_12 hc).2.2.1)) (cm_V 3 hts kc_X11_put ki_RX11 kl_RX11_234 kv_X11_put kx_X11_put kd_X11_put ⟨Nat.le_of_ble_eq_true rfl, Nat.le_of_ble_eq_true rfl⟩) (ty_preE (wr := []) (wc := ([(rf_MO mo mw ma mf m0 m1 mu mv u0 u1 iz th mb mn mpt mbg mwr mwk mlf men), (rf_RW ct 0 mw 958 f1_10)] ++ ws_17)) (ci := 11) (q0 := 0) hP hK hD hS hA hX rfl rfl) rfl rfl hl.1 rfl (lv_room (Nat.le_of_ble_eq_true rfl)) dX11_leavesQueue_34 ⟨Nat.le_of_ble_eq_true rfl, Nat.le_of_ble_eq_true rfl⟩) hP hD hS hA (fun u H locs hw_19 hP hD hS => ?_)
  obtain ⟨ws_20, f1_21⟩ := u
  obtain ⟨hT, hp_22⟩ := hw_19
  have hp_22 : rf_R G cx f1_21 ∧ rf_sm f1_10 f1_21 ∧ f1_21 = upd f1_10 (244 + 54 * p1.toInt.toNat + 41) (rf_of f1_10 p1 42) := hp_22
  have hR_23 := hp_22.1
  have hM_24 := rf_smt hM_13 hp_22.2.1
  have hP : va_P D vwCl ([(rf_MO mo mw ma mf m0 m1 mu mv u0 u1 iz th mb mn mpt mbg mwr mwk mlf men), (rf_RW ct 0 mw 958 f1_21)] ++ ws_20) H := hP
  have hD : va_D A ([(rf_MO mo mw ma mf m0 m1 mu mv u0 u1 iz th mb mn mpt mbg mwr mwk mlf men), (rf_RW ct 0 mw 958 f1_21)] ++ ws_20) := hD
  have hq9_25 : rf_of f1_21 p1 39 = rf_of f p1 39 := by rw [hp_22.2.2]; exact (rf_ne (by decide)).trans hq9_14
  refine lv_iinc (v := 2) (lv' := [(3, .int 2), (2, .int (rf_of f p1 40)), (0, .ref mo), (1, .int p1)]) hx hb dX11_leavesQueue_37 hl (k := 0) rfl (by decide) (by decide) rfl (fun ls hl => ?_)
  refine lv_goto (tgt := 10) hx hb dX11_leavesQueue_40 (by decide) ?_
  refine lv_iload_n hx hb dX11_leavesQueue_10 rfl (lv_at hl 0 rfl) ?_
  refine lv_iconst (v := 1) hx hb dX11_leavesQueue_11 (by decide) ?_
  refine lv_iadd hx hb dX11_leavesQueue_12 ?_
  refine cm_cst (y := 3) (by decide) ?_
  refine lv_iconst (v := 4) hx hb dX11_leavesQueue_13 (by decide) ?_
  refine lv_icmp_ge (tgt := 43) hx hb dX11_leavesQueue_14 (by decide) (fun hc => absurd hc (by decide)) (fun _ => ?_)
  refine lv_aload_n hx hb dX11_leavesQueue_17 rfl (lv_at hl 2 rfl) ?_
  refine lv_iload_n hx hb dX11_leavesQueue_18 rfl (lv_at hl 3 rfl) ?_
  refine lv_bipush (v := 40) hx hb dX11_leavesQueue_19 (by decide) ?_
  refine lv_iload_n hx hb dX11_leavesQueue_21 rfl (lv_at hl 0 rfl) ?_
  refine lv_iadd hx hb dX11_leavesQueue_22 ?_
  refine cm_cst (y := 42) (by decide) ?_
  refine lv_aload_n hx hb dX11_leavesQueue_23 rfl (lv_at hl 2 rfl) ?_
  refine lv_iload_n hx hb dX11_leavesQueue_24 rfl (lv_at hl 3 rfl) ?_
  refine lv_bipush (v := 40) hx hb dX11_leavesQueue_25 (by decide) ?_
  refine lv_iload_n hx hb dX11_leavesQueue_27 rfl (lv_at hl 0 rfl) ?_
  refine lv_iadd hx hb dX11_leavesQueue_28 ?_
  refine cm_cst (y := 42) (by decide) ?_
  refine lv_iconst (v := 1) hx hb dX11_leavesQueue_29 (by decide) ?_
  refine lv_iadd hx hb dX11_leavesQueue_30 ?_
  refine cm_cst (y := 43) (by decide) ?_
  refine ty_ki (wr := []) (wc := ([(rf_MO mo mw ma mf m0 m1 mu mv u0 u1 iz th mb mn mpt mbg mwr mwk mlf men), (rf_RW ct 0 mw 958 f1_21)] ++ ws_20)) (va_runV (As := [.int p1, .int 43]) (rest := [.int 42, .int p1, .ref mo]) ⟨hx, hb, hml, hown, hts⟩ (m_of_43 l D ct S ws_20 ph xx mo mw ma mf m0 m1 mu mv u0 u1 iz mb th mn mpt mbg mwr mwk mlf men f1_21 G cx p1 _ hT h_mu h_mv h_u0 h_u1 hph hy1 hR_23 hc) (cm_V 2 hts kc_X11_of ki_RX11 kl_RX11_209 kv_X11_of kx_X11_of kd_X11_of ⟨Nat.le_of_ble_eq_true rfl, Nat.le_of_ble_eq_true rfl⟩) (ty_preE (wr := []) (wc := ([(rf_MO mo mw ma mf m0 m1 mu mv u0 u1 iz th mb mn mpt mbg mwr mwk mlf men), (rf_RW ct 0 mw 958 f1_21)] ++ ws_20)) (ci := 11) (q0 := 0) hP hK hD hS hA hX rfl rfl) rfl rfl hl.1 rfl (lv_room (Nat.le_of_ble_eq_true rfl)) dX11_leavesQueue_31 ⟨Nat.le_of_ble_eq_true rfl, Nat.le_of_ble_eq_true rfl⟩) hP hD hS hA (fun r_26 u H locs hw_27 hP hD hS => ?_)
  obtain ⟨ws_28, rfl⟩ : ∃ z, z = u := ⟨_, rfl⟩
  obtain ⟨hT, rfl⟩ := hw_27
  have hP : va_P D vwCl ([(rf_MO mo mw ma mf m0 m1 mu mv u0 u1 iz th mb mn mpt mbg mwr mwk mlf men), (rf_RW ct 0 mw 958 f1_21)] ++ ws_28) H := hP
  have hD : va_D A ([(rf_MO mo mw ma mf m0 m1 mu mv u0 u1 iz th mb mn mpt mbg mwr mwk mlf men), (rf_RW ct 0 mw 958 f1_21)] ++ ws_28) := hD
  refine ty_kv (wr := []) (wc := ([(rf_MO mo mw ma mf m0 m1 mu mv u0 u1 iz th mb mn mpt mbg mwr mwk mlf men), (rf_RW ct 0 mw 958 f1_21)] ++ ws_28)) (va_runV (As := [.int p1, .int 42, .int (rf_of f1_21 p1 43)]) (rest := []) ⟨hx, hb, hml, hown, hts⟩ (m_put_42 l D ct S ws_28 ph xx mo mw ma mf m0 m1 mu mv u0 u1 iz mb th mn mpt mbg mwr mwk mlf men f1_21 G cx p1 (rf_of f1_21 p1 43) _ hT h_mu h_mv h_u0 h_u1 hph hy1 hR_23 hc (fun _ => (rf_q40 hR_23 hc).2.2.2)) (cm_V 3 hts kc_X11_put ki_RX11 kl_RX11_234 kv_X11_put kx_X11_put kd_X11_put ⟨Nat.le_of_ble_eq_true rfl, Nat.le_of_ble_eq_true rfl⟩) (ty_preE (wr := []) (wc := ([(rf_MO mo mw ma mf m0 m1 mu mv u0 u1 iz th mb mn mpt mbg mwr mwk mlf men), (rf_RW ct 0 mw 958 f1_21)] ++ ws_28)) (ci := 11) (q0 := 0) hP hK hD hS hA hX rfl rfl) rfl rfl hl.1 rfl (lv_room (Nat.le_of_ble_eq_true rfl)) dX11_leavesQueue_34 ⟨Nat.le_of_ble_eq_true rfl, Nat.le_of_ble_eq_true rfl⟩) hP hD hS hA (fun u H locs hw_30 hP hD hS => ?_)
  obtain ⟨ws_31, f1_32⟩ := u
  obtain ⟨hT, hp_33⟩ := hw_30
  have hp_33 : rf_R G cx f1_32 ∧ rf_sm f1_21 f1_32 ∧ f1_32 = upd f1_21 (244 + 54 * p1.toInt.toNat + 42) (rf_of f1_21 p1 43) := hp_33
  have hR_34 := hp_33.1
  have hM_35 := rf_smt hM_24 hp_33.2.1
  have hP : va_P D vwCl ([(rf_MO mo mw ma mf m0 m1 mu mv u0 u1 iz th mb mn mpt mbg mwr mwk mlf men), (rf_RW ct 0 mw 958 f1_32)] ++ ws_31) H := hP
  have hD : va_D A ([(rf_MO mo mw ma mf m0 m1 mu mv u0 u1 iz th mb mn mpt mbg mwr mwk mlf men), (rf_RW ct 0 mw 958 f1_32)] ++ ws_31) := hD
  have hq9_36 : rf_of f1_32 p1 39 = rf_of f p1 39 := by rw [hp_33.2.2]; exact (rf_ne (by decide)).trans hq9_25
  refine lv_iinc (v := 3) (lv' := [(3, .int 3), (2, .int (rf_of f p1 40)), (0, .ref mo), (1, .int p1)]) hx hb dX11_leavesQueue_37 hl (k := 0) rfl (by decide) (by decide) rfl (fun ls hl => ?_)
  refine lv_goto (tgt := 10) hx hb dX11_leavesQueue_40 (by decide) ?_
  refine lv_iload_n hx hb dX11_leavesQueue_10 rfl (lv_at hl 0 rfl) ?_
  refine lv_iconst (v := 1) hx hb dX11_leavesQueue_11 (by decide) ?_
  refine lv_iadd hx hb dX11_leavesQueue_12 ?_
  refine cm_cst (y := 4) (by decide) ?_
  refine lv_iconst (v := 4) hx hb dX11_leavesQueue_13 (by decide) ?_
  refine lv_icmp_ge (tgt := 43) hx hb dX11_leavesQueue_14 (by decide) (fun _ => ?_) (fun hc => absurd (by decide) hc)
  refine lv_aload_n hx hb dX11_leavesQueue_43 rfl (lv_at hl 2 rfl) ?_
  refine lv_iload_n hx hb dX11_leavesQueue_44 rfl (lv_at hl 3 rfl) ?_
  refine lv_bipush (v := 39) hx hb dX11_leavesQueue_45 (by decide) ?_
  refine lv_aload_n hx hb dX11_leavesQueue_47 rfl (lv_at hl 2 rfl) ?_
  refine lv_iload_n hx hb dX11_leavesQueue_48 rfl (lv_at hl 3 rfl) ?_
  refine lv_bipush (v := 39) hx hb dX11_leavesQueue_49 (by decide) ?_
  refine ty_ki (wr := []) (wc := ([(rf_MO mo mw ma mf m0 m1 mu mv u0 u1 iz th mb mn mpt mbg mwr mwk mlf men), (rf_RW ct 0 mw 958 f1_32)] ++ ws_31)) (va_runV (As := [.int p1, .int 39]) (rest := [.int 39, .int p1, .ref mo]) ⟨hx, hb, hml, hown, hts⟩ (m_of_39 l D ct S ws_31 ph xx mo mw ma mf m0 m1 mu mv u0 u1 iz mb th mn mpt mbg mwr mwk mlf men f1_32 G cx p1 _ hT h_mu h_mv h_u0 h_u1 hph hy1 hR_34 hc) (cm_V 2 hts kc_X11_of ki_RX11 kl_RX11_209 kv_X11_of kx_X11_of kd_X11_of ⟨Nat.le_of_ble_eq_true rfl, Nat.le_of_ble_eq_true rfl⟩) (ty_preE (wr := []) (wc := ([(rf_MO mo mw ma mf m0 m1 mu mv u0 u1 iz th mb mn mpt mbg mwr mwk mlf men), (rf_RW ct 0 mw 958 f1_32)] ++ ws_31)) (ci := 11) (q0 := 0) hP hK hD hS hA hX rfl rfl) rfl rfl hl.1 rfl (lv_room (Nat.le_of_ble_eq_true rfl)) dX11_leavesQueue_51 ⟨Nat.le_of_ble_eq_true rfl, Nat.le_of_ble_eq_true rfl⟩) hP hD hS hA (fun r_37 u H locs hw_38 hP hD hS => ?_)
  obtain ⟨ws_39, rfl⟩ : ∃ z, z = u := ⟨_, rfl⟩
  obtain ⟨hT, rfl⟩ := hw_38
  have hP : va_P D vwCl ([(rf_MO mo mw ma mf m0 m1 mu mv u0 u1 iz th mb mn mpt mbg mwr mwk mlf men), (rf_RW ct 0 mw 958 f1_32)] ++ ws_39) H := hP
  have hD : va_D A ([(rf_MO mo mw ma mf m0 m1 mu mv u0 u1 iz th mb mn mpt mbg mwr mwk mlf men), (rf_RW ct 0 mw 958 f1_32)] ++ ws_39) := hD
  refine lv_iconst (v := 1) hx hb dX11_leavesQueue_54 (by decide) ?_
  refine lv_isub hx hb dX11_leavesQueue_55 ?_
  refine ty_kv (wr := []) (wc := ([(rf_MO mo mw ma mf m0 m1 mu mv u0 u1 iz th mb mn mpt mbg mwr mwk mlf men), (rf_RW ct 0 mw 958 f1_32)] ++ ws_39)) (va_runV (As := [.int p1, .int 39, .int ((rf_of f1_32 p1 39) - 1)]) (rest := []) ⟨hx, hb, hml, hown, hts⟩ (m_put_39 l D ct S ws_39 ph xx mo mw ma mf m0 m1 mu mv u0 u1 iz mb th mn mpt mbg mwr mwk mlf men f1_32 G cx p1 ((rf_of f1_32 p1 39) - 1) _ hT h_mu h_mv h_u0 h_u1 hph hy1 hR_34 hc (rf_q39 hR_34 hc (by rw [hq9_36]; exact hq))) (cm_V 3 hts kc_X11_put ki_RX11 kl_RX11_234 kv_X11_put kx_X11_put kd_X11_put ⟨Nat.le_of_ble_eq_true rfl, Nat.le_of_ble_eq_true rfl⟩) (ty_preE (wr := []) (wc := ([(rf_MO mo mw ma mf m0 m1 mu mv u0 u1 iz th mb mn mpt mbg mwr mwk mlf men), (rf_RW ct 0 mw 958 f1_32)] ++ ws_39)) (ci := 11) (q0 := 0) hP hK hD hS hA hX rfl rfl) rfl rfl hl.1 rfl (lv_room (Nat.le_of_ble_eq_true rfl)) dX11_leavesQueue_56 ⟨Nat.le_of_ble_eq_true rfl, Nat.le_of_ble_eq_true rfl⟩) hP hD hS hA (fun u H locs hw_41 hP hD hS => ?_)
  obtain ⟨ws_42, f1_43⟩ := u
  obtain ⟨hT, hp_44⟩ := hw_41
  have hp_44 : rf_R G cx f1_43 ∧ rf_sm f1_32 f1_43 ∧ f1_43 = upd f1_32 (244 + 54 * p1.toInt.toNat + 39) ((rf_of f1_32 p1 39) - 1) := hp_44
  have hR_45 := hp_44.1
  have hM_46 := rf_smt hM_35 hp_44.2.1
  have hP : va_P D vwCl ([(rf_MO mo mw ma mf m0 m1 mu mv u0 u1 iz th mb mn mpt mbg mwr mwk mlf men), (rf_RW ct 0 mw 958 f1_43)] ++ ws_42) H := hP
  have hD : va_D A ([(rf_MO mo mw ma mf m0 m1 mu mv u0 u1 iz th mb mn mpt mbg mwr mwk mlf men), (rf_RW ct 0 mw 958 f1_43)] ++ ws_42) := hD
  refine lv_iload_n hx hb dX11_leavesQueue_59 rfl (lv_at hl 1 rfl) ?_
  exact W.iret (v := (rf_of f p1 40)) hx hb hr (fun t ht hW => ⟨⟨(rf_of f p1 40), (ws_42, f1_43), rfl, ⟨hT, ⟨hR_45, hM_46, (by have := rf_q40 hR hc; have := rf_qk hR hc; have := rf_np hR; omega)⟩⟩, by rw [ht]; exact hP, by rw [hAe]; exact hD⟩, hS.F ht⟩) hS.2.2 dX11_leavesQueue_60
theorem dX11_comes_0 : decode cX11_comes 0 = .ok (.aload_n 0, 1) := by decide +kernel
theorem dX11_comes_1 : decode cX11_comes 1 = .ok (.iload_n 1, 1) := by decide +kernel
theorem dX11_comes_2 : decode cX11_comes 2 = .ok (.iconst 1, 1) := by decide +kernel
theorem dX11_comes_3 : decode cX11_comes 3 = .ok (.invokevirtual 209, 3) := by decide +kernel
theorem dX11_comes_6 : decode cX11_comes 6 = .ok (.istore_n 3, 1) := by decide +kernel
theorem dX11_comes_7 : decode cX11_comes 7 = .ok (.iload_n 2, 1) := by decide +kernel
theorem dX11_comes_8 : decode cX11_comes 8 = .ok (.istore 4, 2) := by decide +kernel
theorem dX11_comes_10 : decode cX11_comes 10 = .ok (.iload 4, 2) := by decide +kernel
theorem dX11_comes_12 : decode cX11_comes 12 = .ok (.aload_n 0, 1) := by decide +kernel
theorem dX11_comes_13 : decode cX11_comes 13 = .ok (.iload_n 3, 1) := by decide +kernel
theorem dX11_comes_14 : decode cX11_comes 14 = .ok (.invokevirtual 276, 3) := by decide +kernel
theorem dX11_comes_17 : decode cX11_comes 17 = .ok (.if_icmp .ge 88, 3) := by decide +kernel
theorem dX11_comes_20 : decode cX11_comes 20 = .ok (.aload_n 0, 1) := by decide +kernel
theorem dX11_comes_21 : decode cX11_comes 21 = .ok (.iload_n 3, 1) := by decide +kernel
theorem dX11_comes_22 : decode cX11_comes 22 = .ok (.iload 4, 2) := by decide +kernel
theorem dX11_comes_24 : decode cX11_comes 24 = .ok (.iconst 0, 1) := by decide +kernel
theorem dX11_comes_25 : decode cX11_comes 25 = .ok (.invokevirtual 218, 3) := by decide +kernel
theorem dX11_comes_28 : decode cX11_comes 28 = .ok (.iconst 4, 1) := by decide +kernel
theorem dX11_comes_29 : decode cX11_comes 29 = .ok (.if_icmp .ne 76, 3) := by decide +kernel
theorem dX11_comes_105 : decode cX11_comes 105 = .ok (.iload 4, 2) := by decide +kernel
theorem dX11_comes_107 : decode cX11_comes 107 = .ok (.aload_n 0, 1) := by decide +kernel
theorem dX11_comes_108 : decode cX11_comes 108 = .ok (.iload_n 3, 1) := by decide +kernel
theorem dX11_comes_109 : decode cX11_comes 109 = .ok (.invokevirtual 276, 3) := by decide +kernel
theorem dX11_comes_112 : decode cX11_comes 112 = .ok (.if_icmp .ne 7, 3) := by decide +kernel
theorem dX11_comes_119 : decode cX11_comes 119 = .ok (.iconst 0, 1) := by decide +kernel
theorem dX11_comes_120 : decode cX11_comes 120 = .ok (.istore 5, 2) := by decide +kernel
theorem dX11_comes_122 : decode cX11_comes 122 = .ok (.aload_n 0, 1) := by decide +kernel
theorem dX11_comes_123 : decode cX11_comes 123 = .ok (.iload_n 1, 1) := by decide +kernel
theorem dX11_comes_124 : decode cX11_comes 124 = .ok (.iconst 2, 1) := by decide +kernel
theorem dX11_comes_125 : decode cX11_comes 125 = .ok (.iload 5, 2) := by decide +kernel
theorem dX11_comes_127 : decode cX11_comes 127 = .ok (.ifCond .eq 7, 3) := by decide +kernel
theorem dX11_comes_134 : decode cX11_comes 134 = .ok (.iload 4, 2) := by decide +kernel
theorem dX11_comes_136 : decode cX11_comes 136 = .ok (.invokevirtual 234, 3) := by decide +kernel
theorem dX11_comes_139 : decode cX11_comes 139 = .ok (.aload_n 0, 1) := by decide +kernel
theorem dX11_comes_140 : decode cX11_comes 140 = .ok (.iload_n 1, 1) := by decide +kernel
theorem dX11_comes_141 : decode cX11_comes 141 = .ok (.iconst 3, 1) := by decide +kernel
theorem dX11_comes_142 : decode cX11_comes 142 = .ok (.iconst 0, 1) := by decide +kernel
theorem dX11_comes_143 : decode cX11_comes 143 = .ok (.invokevirtual 234, 3) := by decide +kernel
theorem dX11_comes_146 : decode cX11_comes 146 = .ok (.aload_n 0, 1) := by decide +kernel
theorem dX11_comes_147 : decode cX11_comes 147 = .ok (.iload_n 1, 1) := by decide +kernel
theorem dX11_comes_148 : decode cX11_comes 148 = .ok (.bipush 6, 2) := by decide +kernel
theorem dX11_comes_150 : decode cX11_comes 150 = .ok (.aload_n 0, 1) := by decide +kernel
theorem dX11_comes_151 : decode cX11_comes 151 = .ok (.iload_n 1, 1) := by decide +kernel
theorem dX11_comes_152 : decode cX11_comes 152 = .ok (.iconst 1, 1) := by decide +kernel
theorem dX11_comes_153 : decode cX11_comes 153 = .ok (.invokevirtual 261, 3) := by decide +kernel
theorem dX11_comes_156 : decode cX11_comes 156 = .ok (.invokevirtual 265, 3) := by decide +kernel
theorem dX11_comes_159 : decode cX11_comes 159 = .ok (.iload 5, 2) := by decide +kernel
theorem dX11_comes_161 : decode cX11_comes 161 = .ok (.ifCond .eq 8, 3) := by decide +kernel
theorem dX11_comes_169 : decode cX11_comes 169 = .ok (.return_, 1) := by decide +kernel
set_option maxRecDepth 100000 in
set_option maxHeartbeats 4000000 in
theorem m_comes_0 (l : Launch) (D : va_G) (ct : Nat → ClassId) (S : ty_S) (ws : va_W) (ph : va_W → Prop) (xx : Nat → Nat → Nat → Prop) (mo : Nat) (mw : Nat) (ma : Nat) (mf : Nat) (m0 : Nat) (m1 : Nat) (mu : Nat) (mv : Nat) (u0 : Nat) (u1 : Nat) (iz : Nat) (mb : Nat) (th : Int32) (mn : Int32) (mpt : Int32) (mbg : Int32) (mwr : Int32) (mwk : Int32) (mlf : Int32) (men : Int32) (f : Nat → Int32) (G : Nat → Int32) (cx : Int) (p1 : Int32) (sz : Nat) (hT : ty_V ct S ph ws) (h_mu : S mu = some (.inr (1, 42))) (h_mv : S mv = some (.inr (1, 42))) (h_u0 : S u0 = some (.inr (1, 42))) (h_u1 : S u1 = some (.inr (1, 42))) (hph : ty_C ph xx) (hy1 : ty_y1 xx) (hy11 : ty_y0 xx 11) (hR : rf_R G cx f) (hc : 0 ≤ p1.toInt ∧ p1.toInt < (G 9).toInt) (hcx : cx = -1 ∨ cx = p1.toInt) (hp : 0 ≤ (rf_of f p1 1).toInt ∧ (rf_of f p1 1).toInt < (G 10).toInt) : Met l yX11_comes (ws_ yX11_comes cX11_comes 6 none) ({ frames := 1, cells := 0, slots := 0, locals := 24 } : Room) (va_Pc [.ref mo, .int p1, .int 0] (cmP D ct sz ([(rf_MO mo mw ma mf m0 m1 mu mv u0 u1 iz th mb mn mpt mbg mwr mwk mlf men), (rf_RW ct 0 mw 958 f)] ++ ws))) (va_Qv (fun (u : va_W × (Nat → Int32)) => match u with | (u9, f1) => ty_V ct S ph u9 ∧ rf_R G (-1) f1) (cmB D ([(rf_MO mo mw ma mf m0 m1 mu mv u0 u1 iz th mb mn mpt mbg mwr mwk mlf men), (rf_RW ct 0 mw 958 f)] ++ ws) sz (fun (u : va_W × (Nat → Int32)) => match u with | (u9, f1) => ([(rf_MO mo mw ma mf m0 m1 mu mv u0 u1 iz th mb mn mpt mbg mwr mwk mlf men), (rf_RW ct 0 mw 958 f1)] ++ u9))) (va_A ([(rf_MO mo mw ma mf m0 m1 mu mv u0 u1 iz th mb mn mpt mbg mwr mwk mlf men), (rf_RW ct 0 mw 958 f)] ++ ws) sz)) 0 0 (va_A ([(rf_MO mo mw ma mf m0 m1 mu mv u0 u1 iz th mb mn mpt mbg mwr mwk mlf men), (rf_RW ct 0 mw 958 f)] ++ ws) sz) := by
  refine Met.ofW (cc := cX11_comes) (maxL := 6) (ret := none) (by decide) rfl ?_
  intro p e s m args below meth c s₁ B hml hv
  obtain ⟨rfl, hsz, hP, hK, hD0, hX⟩ := hv
  have hx := B.exec
  have hb := B.bytes
  have hr := B.returns
  have hts := ws_all (atoms_spec (ws := ws_ yX11_comes cX11_comes 6 none) B.pre)
  have hown : s.vm.findClass RX11 = some m.cls := findClass_of_methodNamed B.named
  have hlocks := B.notSynchronized
  subst hsz
  have hD := hD0.self (sz := s.heap.size)
  generalize hAe : va_A ([(rf_MO mo mw ma mf m0 m1 mu mv u0 u1 iz th mb mn mpt mbg mwr mwk mlf men), (rf_RW ct 0 mw 958 f)] ++ ws) s.heap.size = A at hD hX ⊢
  have hA : ∀ q : Nat, s.heap.size ≤ q → A q := fun q h => by rw [← hAe]; exact Or.inr h
  have hS : va_S A s.heap s.heap [] := va_S.rf
  have hl := lv_entry ([.ref mo, .int p1, .int 0]) (n := 6) (Nat.le_of_ble_eq_true rfl)
  rw [lg_entry_eq]
  generalize (lg_sl ([.ref mo, .int p1, .int 0]) ++ List.replicate (6 - (lg_sl ([.ref mo, .int p1, .int 0])).length) Slot.unset).toArray = ls at hl ⊢
  have hl : lv_has ls 6 [(0, .ref mo), (1, .int p1), (2, .int 0)] := hl
  refine lv_aload_n hx hb dX11_comes_0 rfl (lv_at hl 0 rfl) ?_
  refine lv_iload_n hx hb dX11_comes_1 rfl (lv_at hl 1 rfl) ?_
  refine lv_iconst (v := 1) hx hb dX11_comes_2 (by decide) ?_
  refine ty_ki (wr := []) (wc := ([(rf_MO mo mw ma mf m0 m1 mu mv u0 u1 iz th mb mn mpt mbg mwr mwk mlf men), (rf_RW ct 0 mw 958 f)] ++ ws)) (va_runV (As := [.int p1, .int 1]) (rest := []) ⟨hx, hb, hml, hown, hts⟩ (m_of_1 l D ct S ws ph xx mo mw ma mf m0 m1 mu mv u0 u1 iz mb th mn mpt mbg mwr mwk mlf men f G cx p1 _ hT h_mu h_mv h_u0 h_u1 hph hy1 hR hc) (cm_V 2 hts kc_X11_of ki_RX11 kl_RX11_209 kv_X11_of kx_X11_of kd_X11_of ⟨Nat.le_of_ble_eq_true rfl, Nat.le_of_ble_eq_true rfl⟩) (ty_preE (wr := []) (wc := ([(rf_MO mo mw ma mf m0 m1 mu mv u0 u1 iz th mb mn mpt mbg mwr mwk mlf men), (rf_RW ct 0 mw 958 f)] ++ ws)) (ci := 11) (q0 := 0) hP hK hD hS hA hX rfl rfl) rfl rfl hl.1 rfl (lv_room (Nat.le_of_ble_eq_true rfl)) dX11_comes_3 ⟨Nat.le_of_ble_eq_true rfl, Nat.le_of_ble_eq_true rfl⟩) hP hD hS hA (fun r_1 u H locs hw_2 hP hD hS => ?_)
  obtain ⟨ws_3, rfl⟩ : ∃ z, z = u := ⟨_, rfl⟩
  obtain ⟨hT, rfl⟩ := hw_2
  have hP : va_P D vwCl ([(rf_MO mo mw ma mf m0 m1 mu mv u0 u1 iz th mb mn mpt mbg mwr mwk mlf men), (rf_RW ct 0 mw 958 f)] ++ ws_3) H := hP
  have hD : va_D A ([(rf_MO mo mw ma mf m0 m1 mu mv u0 u1 iz th mb mn mpt mbg mwr mwk mlf men), (rf_RW ct 0 mw 958 f)] ++ ws_3) := hD
  refine lv_istore_n (lv' := [(3, .int (rf_of f p1 1)), (0, .ref mo), (1, .int p1), (2, .int 0)]) hx hb dX11_comes_6 rfl hl (by decide) rfl (fun ls hl => ?_)
  refine lv_iload_n hx hb dX11_comes_7 rfl (lv_at hl 3 rfl) ?_
  refine lv_istore (lv' := [(4, .int 0), (3, .int (rf_of f p1 1)), (0, .ref mo), (1, .int p1), (2, .int 0)]) hx hb dX11_comes_8 hl (by decide) rfl (fun ls hl => ?_)
  refine lv_iload hx hb dX11_comes_10 (lv_at hl 0 rfl) ?_
  refine lv_aload_n hx hb dX11_comes_12 rfl (lv_at hl 2 rfl) ?_
  refine lv_iload_n hx hb dX11_comes_13 rfl (lv_at hl 1 rfl) ?_
  refine ty_ki (wr := []) (wc := ([(rf_MO mo mw ma mf m0 m1 mu mv u0 u1 iz th mb mn mpt mbg mwr mwk mlf men), (rf_RW ct 0 mw 958 f)] ++ ws_3)) (va_runV (As := [.int (rf_of f p1 1)]) (rest := [.int 0]) ⟨hx, hb, hml, hown, hts⟩ (m_X11_stepsOf l D ct S ws_3 ph xx mo mw ma mf m0 m1 mu mv u0 u1 iz mb th mn mpt mbg mwr mwk mlf men f G cx (rf_of f p1 1) _ hT h_mu h_mv h_u0 h_u1 hph hy1 hR (rf_p4 hR hp)) (cm_V 1 hts kc_X11_stepsOf ki_RX11 kl_RX11_276 kv_X11_stepsOf kx_X11_stepsOf kd_X11_stepsOf ⟨Nat.le_of_ble_eq_true rfl, Nat.le_of_ble_eq_true rfl⟩) (ty_preE (wr := []) (wc := ([(rf_MO mo mw ma mf m0 m1 mu mv u0 u1 iz th mb mn mpt mbg mwr mwk mlf men), (rf_RW ct 0 mw 958 f)] ++ ws_3)) (ci := 11) (q0 := 0) hP hK hD hS hA hX rfl rfl) rfl rfl hl.1 rfl (lv_room (Nat.le_of_ble_eq_true rfl)) dX11_comes_14 ⟨Nat.le_of_ble_eq_true rfl, Nat.le_of_ble_eq_true rfl⟩) hP hD hS hA (fun r_4 u H locs hw_5 hP hD hS => ?_)
  obtain ⟨ws_6, rfl⟩ : ∃ z, z = u := ⟨_, rfl⟩
  obtain ⟨hT, rfl⟩ := hw_5
  have hP : va_P D vwCl ([(rf_MO mo mw ma mf m0 m1 mu mv u0 u1 iz th mb mn mpt mbg mwr mwk mlf men), (rf_RW ct 0 mw 958 f)] ++ ws_6) H := hP
  have hD : va_D A ([(rf_MO mo mw ma mf m0 m1 mu mv u0 u1 iz th mb mn mpt mbg mwr mwk mlf men), (rf_RW ct 0 mw 958 f)] ++ ws_6) := hD
  refine lv_icmp_ge (tgt := 105) hx hb dX11_comes_17 (by decide) (fun hc => absurd hc (rf_c01 hR hp)) (fun _ => ?_)
  refine lv_aload_n hx hb dX11_comes_20 rfl (lv_at hl 2 rfl) ?_
  refine lv_iload_n hx hb dX11_comes_21 rfl (lv_at hl 1 rfl) ?_
  refine lv_iload hx hb dX11_comes_22 (lv_at hl 0 rfl) ?_
  refine lv_iconst (v := 0) hx hb dX11_comes_24 (by decide) ?_
  refine ty_ki (wr := []) (wc := ([(rf_MO mo mw ma mf m0 m1 mu mv u0 u1 iz th mb mn mpt mbg mwr mwk mlf men), (rf_RW ct 0 mw 958 f)] ++ ws_6)) (va_runV (As := [.int (rf_of f p1 1), .int 0, .int 0]) (rest := []) ⟨hx, hb, hml, hown, hts⟩ (m_stepOf_0 l D ct S ws_6 ph xx mo mw ma mf m0 m1 mu mv u0 u1 iz mb th mn mpt mbg mwr mwk mlf men f G cx (rf_of f p1 1) (0 : Int32) _ hT h_mu h_mv h_u0 h_u1 hph hy1 hR (rf_p4 hR hp) (by decide)) (cm_V 3 hts kc_X11_stepOf ki_RX11 kl_RX11_218 kv_X11_stepOf kx_X11_stepOf kd_X11_stepOf ⟨Nat.le_of_ble_eq_true rfl, Nat.le_of_ble_eq_true rfl⟩) (ty_preE (wr := []) (wc := ([(rf_MO mo mw ma mf m0 m1 mu mv u0 u1 iz th mb mn mpt mbg mwr mwk mlf men), (rf_RW ct 0 mw 958 f)] ++ ws_6)) (ci := 11) (q0 := 0) hP hK hD hS hA hX rfl rfl) rfl rfl hl.1 rfl (lv_room (Nat.le_of_ble_eq_true rfl)) dX11_comes_25 ⟨Nat.le_of_ble_eq_true rfl, Nat.le_of_ble_eq_true rfl⟩) hP hD hS hA (fun r_7 u H locs hw_8 hP hD hS => ?_)
  obtain ⟨ws_9, rfl⟩ : ∃ z, z = u := ⟨_, rfl⟩
  obtain ⟨hT, rfl⟩ := hw_8
  have hP : va_P D vwCl ([(rf_MO mo mw ma mf m0 m1 mu mv u0 u1 iz th mb mn mpt mbg mwr mwk mlf men), (rf_RW ct 0 mw 958 f)] ++ ws_9) H := hP
  have hD : va_D A ([(rf_MO mo mw ma mf m0 m1 mu mv u0 u1 iz th mb mn mpt mbg mwr mwk mlf men), (rf_RW ct 0 mw 958 f)] ++ ws_9) := hD
  refine lv_iconst (v := 4) hx hb dX11_comes_28 (by decide) ?_
  refine lv_icmp_ne (tgt := 105) hx hb dX11_comes_29 (by decide) (fun _ => ?_) (fun hc => absurd hc (rf_c02 hR hp))
  refine lv_iload hx hb dX11_comes_105 (lv_at hl 0 rfl) ?_
  refine lv_aload_n hx hb dX11_comes_107 rfl (lv_at hl 2 rfl) ?_
  refine lv_iload_n hx hb dX11_comes_108 rfl (lv_at hl 1 rfl) ?_
  refine ty_ki (wr := []) (wc := ([(rf_MO mo mw ma mf m0 m1 mu mv u0 u1 iz th mb mn mpt mbg mwr mwk mlf men), (rf_RW ct 0 mw 958 f)] ++ ws_9)) (va_runV (As := [.int (rf_of f p1 1)]) (rest := [.int 0]) ⟨hx, hb, hml, hown, hts⟩ (m_X11_stepsOf l D ct S ws_9 ph xx mo mw ma mf m0 m1 mu mv u0 u1 iz mb th mn mpt mbg mwr mwk mlf men f G cx (rf_of f p1 1) _ hT h_mu h_mv h_u0 h_u1 hph hy1 hR (rf_p4 hR hp)) (cm_V 1 hts kc_X11_stepsOf ki_RX11 kl_RX11_276 kv_X11_stepsOf kx_X11_stepsOf kd_X11_stepsOf ⟨Nat.le_of_ble_eq_true rfl, Nat.le_of_ble_eq_true rfl⟩) (ty_preE (wr := []) (wc := ([(rf_MO mo mw ma mf m0 m1 mu mv u0 u1 iz th mb mn mpt mbg mwr mwk mlf men), (rf_RW ct 0 mw 958 f)] ++ ws_9)) (ci := 11) (q0 := 0) hP hK hD hS hA hX rfl rfl) rfl rfl hl.1 rfl (lv_room (Nat.le_of_ble_eq_true rfl)) dX11_comes_109 ⟨Nat.le_of_ble_eq_true rfl, Nat.le_of_ble_eq_true rfl⟩) hP hD hS hA (fun r_10 u H locs hw_11 hP hD hS => ?_)
  obtain ⟨ws_12, rfl⟩ : ∃ z, z = u := ⟨_, rfl⟩
  obtain ⟨hT, rfl⟩ := hw_11
  have hP : va_P D vwCl ([(rf_MO mo mw ma mf m0 m1 mu mv u0 u1 iz th mb mn mpt mbg mwr mwk mlf men), (rf_RW ct 0 mw 958 f)] ++ ws_12) H := hP
  have hD : va_D A ([(rf_MO mo mw ma mf m0 m1 mu mv u0 u1 iz th mb mn mpt mbg mwr mwk mlf men), (rf_RW ct 0 mw 958 f)] ++ ws_12) := hD
  refine lv_icmp_ne (tgt := 119) hx hb dX11_comes_112 (by decide) (fun _ => ?_) (fun hc => absurd hc (rf_c03 hR hp))
  refine lv_iconst (v := 0) hx hb dX11_comes_119 (by decide) ?_
  refine lv_istore (lv' := [(5, .int 0), (4, .int 0), (3, .int (rf_of f p1 1)), (0, .ref mo), (1, .int p1), (2, .int 0)]) hx hb dX11_comes_120 hl (by decide) rfl (fun ls hl => ?_)
  refine lv_aload_n hx hb dX11_comes_122 rfl (lv_at hl 3 rfl) ?_
  refine lv_iload_n hx hb dX11_comes_123 rfl (lv_at hl 4 rfl) ?_
  refine lv_iconst (v := 2) hx hb dX11_comes_124 (by decide) ?_
  refine lv_iload hx hb dX11_comes_125 (lv_at hl 0 rfl) ?_
  refine lv_if_eq (tgt := 134) hx hb dX11_comes_127 (by decide) (fun _ => ?_) (fun hc => absurd (by decide) hc)
  refine lv_iload hx hb dX11_comes_134 (lv_at hl 1 rfl) ?_
  refine ty_kv (wr := []) (wc := ([(rf_MO mo mw ma mf m0 m1 mu mv u0 u1 iz th mb mn mpt mbg mwr mwk mlf men), (rf_RW ct 0 mw 958 f)] ++ ws_12)) (va_runV (As := [.int p1, .int 2, .int 0]) (rest := []) ⟨hx, hb, hml, hown, hts⟩ (m_put_2 l D ct S ws_12 ph xx mo mw ma mf m0 m1 mu mv u0 u1 iz mb th mn mpt mbg mwr mwk mlf men f G cx p1 (0 : Int32) _ hT h_mu h_mv h_u0 h_u1 hph hy1 hR hc hcx (fun _ => (show -1 ≤ (0 : Int32).toInt ∧ (0 : Int32).toInt ≤ 11 from by decide))) (cm_V 3 hts kc_X11_put ki_RX11 kl_RX11_234 kv_X11_put kx_X11_put kd_X11_put ⟨Nat.le_of_ble_eq_true rfl, Nat.le_of_ble_eq_true rfl⟩) (ty_preE (wr := []) (wc := ([(rf_MO mo mw ma mf m0 m1 mu mv u0 u1 iz th mb mn mpt mbg mwr mwk mlf men), (rf_RW ct 0 mw 958 f)] ++ ws_12)) (ci := 11) (q0 := 0) hP hK hD hS hA hX rfl rfl) rfl rfl hl.1 rfl (lv_room (Nat.le_of_ble_eq_true rfl)) dX11_comes_136 ⟨Nat.le_of_ble_eq_true rfl, Nat.le_of_ble_eq_true rfl⟩) hP hD hS hA (fun u H locs hw_14 hP hD hS => ?_)
  obtain ⟨ws_15, f1_16⟩ := u
  obtain ⟨hT, hp_17⟩ := hw_14
  have hp_17 : rf_R G p1.toInt f1_16 ∧ f1_16 = upd f (244 + 54 * p1.toInt.toNat + 2) (0 : Int32) := hp_17
  have hR_18 := hp_17.1
  have hP : va_P D vwCl ([(rf_MO mo mw ma mf m0 m1 mu mv u0 u1 iz th mb mn mpt mbg mwr mwk mlf men), (rf_RW ct 0 mw 958 f1_16)] ++ ws_15) H := hP
  have hD : va_D A ([(rf_MO mo mw ma mf m0 m1 mu mv u0 u1 iz th mb mn mpt mbg mwr mwk mlf men), (rf_RW ct 0 mw 958 f1_16)] ++ ws_15) := hD
  refine lv_aload_n hx hb dX11_comes_139 rfl (lv_at hl 3 rfl) ?_
  refine lv_iload_n hx hb dX11_comes_140 rfl (lv_at hl 4 rfl) ?_
  refine lv_iconst (v := 3) hx hb dX11_comes_141 (by decide) ?_
  refine lv_iconst (v := 0) hx hb dX11_comes_142 (by decide) ?_
  refine ty_kv (wr := []) (wc := ([(rf_MO mo mw ma mf m0 m1 mu mv u0 u1 iz th mb mn mpt mbg mwr mwk mlf men), (rf_RW ct 0 mw 958 f1_16)] ++ ws_15)) (va_runV (As := [.int p1, .int 3, .int 0]) (rest := []) ⟨hx, hb, hml, hown, hts⟩ (m_put_3 l D ct S ws_15 ph xx mo mw ma mf m0 m1 mu mv u0 u1 iz mb th mn mpt mbg mwr mwk mlf men f1_16 G p1.toInt p1 (0 : Int32) _ hT h_mu h_mv h_u0 h_u1 hph hy1 hR_18 hc) (cm_V 3 hts kc_X11_put ki_RX11 kl_RX11_234 kv_X11_put kx_X11_put kd_X11_put ⟨Nat.le_of_ble_eq_true rfl, Nat.le_of_ble_eq_true rfl⟩) (ty_preE (wr := []) (wc := ([(rf_MO mo mw ma mf m0 m1 mu mv u0 u1 iz th mb mn mpt mbg mwr mwk mlf men), (rf_RW ct 0 mw 958 f1_16)] ++ ws_15)) (ci := 11) (q0 := 0) hP hK hD hS hA hX rfl rfl) rfl rfl hl.1 rfl (lv_room (Nat.le_of_ble_eq_true rfl)) dX11_comes_143 ⟨Nat.le_of_ble_eq_true rfl, Nat.le_of_ble_eq_true rfl⟩) hP hD hS hA (fun u H locs hw_21 hP hD hS => ?_)
  obtain ⟨ws_22, f1_23⟩ := u
  obtain ⟨hT, hp_24⟩ := hw_21
  have hp_24 : rf_R G p1.toInt f1_23 ∧ rf_sm f1_16 f1_23 ∧ f1_23 = upd f1_16 (244 + 54 * p1.toInt.toNat + 3) (0 : Int32) := hp_24
  have hR_25 := hp_24.1
  have hP : va_P D vwCl ([(rf_MO mo mw ma mf m0 m1 mu mv u0 u1 iz th mb mn mpt mbg mwr mwk mlf men), (rf_RW ct 0 mw 958 f1_23)] ++ ws_22) H := hP
  have hD : va_D A ([(rf_MO mo mw ma mf m0 m1 mu mv u0 u1 iz th mb mn mpt mbg mwr mwk mlf men), (rf_RW ct 0 mw 958 f1_23)] ++ ws_22) := hD
  refine lv_aload_n hx hb dX11_comes_146 rfl (lv_at hl 3 rfl) ?_
  refine lv_iload_n hx hb dX11_comes_147 rfl (lv_at hl 4 rfl) ?_
  refine lv_bipush (v := 6) hx hb dX11_comes_148 (by decide) ?_
  refine lv_aload_n hx hb dX11_comes_150 rfl (lv_at hl 3 rfl) ?_
  refine lv_iload_n hx hb dX11_comes_151 rfl (lv_at hl 4 rfl) ?_
  refine lv_iconst (v := 1) hx hb dX11_comes_152 (by decide) ?_
  have hP : va_P D vwCl ([(rf_RW ct 0 mw 958 f1_23), (rf_MO mo mw ma mf m0 m1 mu mv u0 u1 iz th mb mn mpt mbg mwr mwk mlf men)] ++ ws_22) H := ty_permP hP (ty_ordp (E := [(rf_MO mo mw ma mf m0 m1 mu mv u0 u1 iz th mb mn mpt mbg mwr mwk mlf men), (rf_RW ct 0 mw 958 f1_23)]) (E2 := [(rf_RW ct 0 mw 958 f1_23), (rf_MO mo mw ma mf m0 m1 mu mv u0 u1 iz th mb mn mpt mbg mwr mwk mlf men)]) (n := 2) [1, 0] rfl rfl (by decide))
  have hD : va_D A ([(rf_RW ct 0 mw 958 f1_23), (rf_MO mo mw ma mf m0 m1 mu mv u0 u1 iz th mb mn mpt mbg mwr mwk mlf men)] ++ ws_22) := ty_permD hD (ty_ordp (E := [(rf_MO mo mw ma mf m0 m1 mu mv u0 u1 iz th mb mn mpt mbg mwr mwk mlf men), (rf_RW ct 0 mw 958 f1_23)]) (E2 := [(rf_RW ct 0 mw 958 f1_23), (rf_MO mo mw ma mf m0 m1 mu mv u0 u1 iz th mb mn mpt mbg mwr mwk mlf men)]) (n := 2) [1, 0] rfl rfl (by decide))
  refine ty_kl (wr := [(rf_RW ct 0 mw 958 f1_23)]) (wc := ([(rf_MO mo mw ma mf m0 m1 mu mv u0 u1 iz th mb mn mpt mbg mwr mwk mlf men)] ++ ws_22)) (va_runV (As := [.int p1, .int 1]) (rest := [.int 6, .int p1, .ref mo]) ⟨hx, hb, hml, hown, hts⟩ (m_X11_sum l D ct S ws_22 ph xx mo mw ma mf m0 m1 mu mv u0 u1 iz mb th mn mpt mbg mwr mwk mlf men p1 (1 : Int32) _ hT h_mu h_mv h_u0 h_u1 hph hy1 (rf_c6 hR_25 hc) (by decide)) (cm_V 2 hts kc_X11_sum ki_RX11 kl_RX11_261 kv_X11_sum kx_X11_sum kd_X11_sum ⟨Nat.le_of_ble_eq_true rfl, Nat.le_of_ble_eq_true rfl⟩) (ty_preE (wr := [(rf_RW ct 0 mw 958 f1_23)]) (wc := ([(rf_MO mo mw ma mf m0 m1 mu mv u0 u1 iz th mb mn mpt mbg mwr mwk mlf men)] ++ ws_22)) (ci := 11) (q0 := 1) hP hK hD hS hA hX rfl rfl) rfl rfl hl.1 rfl (lv_room (Nat.le_of_ble_eq_true rfl)) dX11_comes_153 ⟨Nat.le_of_ble_eq_true rfl, Nat.le_of_ble_eq_true rfl⟩) hP hD hS hA (fun r_27 u H locs hw_28 hP hD hS => ?_)
  obtain ⟨ws_29, rfl⟩ : ∃ z, z = u := ⟨_, rfl⟩
  have hT := hw_28
  have hP : va_P D vwCl ([(rf_RW ct 0 mw 958 f1_23), (rf_MO mo mw ma mf m0 m1 mu mv u0 u1 iz th mb mn mpt mbg mwr mwk mlf men)] ++ ws_29) H := hP
  have hD : va_D A ([(rf_RW ct 0 mw 958 f1_23), (rf_MO mo mw ma mf m0 m1 mu mv u0 u1 iz th mb mn mpt mbg mwr mwk mlf men)] ++ ws_29) := hD
  refine ty_kv (wr := [(rf_RW ct 0 mw 958 f1_23)]) (wc := ([(rf_MO mo mw ma mf m0 m1 mu mv u0 u1 iz th mb mn mpt mbg mwr mwk mlf men)] ++ ws_29)) (va_runV (As := [.int p1, .int 6, .long r_27]) (rest := []) ⟨hx, hb, hml, hown, hts⟩ (m_X11_putSum l D ct S ws_29 ph xx mo mw ma mf m0 m1 mu mv u0 u1 iz mb th mn mpt mbg mwr mwk mlf men p1 (6 : Int32) r_27 _ hT h_mu h_mv h_u0 h_u1 hph hy1 hy11 (rf_c6 hR_25 hc) (by decide)) (cm_V 3 hts kc_X11_putSum ki_RX11 kl_RX11_265 kv_X11_putSum kx_X11_putSum kd_X11_putSum ⟨Nat.le_of_ble_eq_true rfl, Nat.le_of_ble_eq_true rfl⟩) (ty_preE (wr := [(rf_RW ct 0 mw 958 f1_23)]) (wc := ([(rf_MO mo mw ma mf m0 m1 mu mv u0 u1 iz th mb mn mpt mbg mwr mwk mlf men)] ++ ws_29)) (ci := 11) (q0 := 1) hP hK hD hS hA hX rfl rfl) rfl rfl hl.1 rfl (lv_room (Nat.le_of_ble_eq_true rfl)) dX11_comes_156 ⟨Nat.le_of_ble_eq_true rfl, Nat.le_of_ble_eq_true rfl⟩) hP hD hS hA (fun u H locs hw_31 hP hD hS => ?_)
  obtain ⟨ws_32, rfl⟩ : ∃ z, z = u := ⟨_, rfl⟩
  have hT := hw_31
  have hP : va_P D vwCl ([(rf_RW ct 0 mw 958 f1_23), (rf_MO mo mw ma mf m0 m1 mu mv u0 u1 iz th mb mn mpt mbg mwr mwk mlf men)] ++ ws_32) H := hP
  have hD : va_D A ([(rf_RW ct 0 mw 958 f1_23), (rf_MO mo mw ma mf m0 m1 mu mv u0 u1 iz th mb mn mpt mbg mwr mwk mlf men)] ++ ws_32) := hD
  refine lv_iload hx hb dX11_comes_159 (lv_at hl 0 rfl) ?_
  refine lv_if_eq (tgt := 169) hx hb dX11_comes_161 (by decide) (fun _ => ?_) (fun hc => absurd (by decide) hc)
  have e1 : rf_of f1_23 p1 1 = rf_of f p1 1 := by rw [hp_24.2.2, rf_ne (by decide), hp_17.2]; exact rf_ne (by decide)
  have e2 : rf_of f1_23 p1 2 = 0 := by rw [hp_24.2.2, rf_ne (by decide), hp_17.2]; exact rf_eq
  have hRf := rf_back9 hc.1 hR_25 (Or.inr rfl) (rf_runok hc.1 (by unfold rf_on; rw [e1, e2, ← (rf_psn hR hp).1]; exact ⟨hp, by decide, by have := rf_psn hR hp; have z : (0 : Int32).toInt = 0 := (by decide); omega⟩))
  have hP : va_P D vwCl ([(rf_MO mo mw ma mf m0 m1 mu mv u0 u1 iz th mb mn mpt mbg mwr mwk mlf men), (rf_RW ct 0 mw 958 f1_23)] ++ ws_32) H := ty_permP hP (ty_ordp (E := [(rf_RW ct 0 mw 958 f1_23), (rf_MO mo mw ma mf m0 m1 mu mv u0 u1 iz th mb mn mpt mbg mwr mwk mlf men)]) (E2 := [(rf_MO mo mw ma mf m0 m1 mu mv u0 u1 iz th mb mn mpt mbg mwr mwk mlf men), (rf_RW ct 0 mw 958 f1_23)]) (n := 2) [1, 0] rfl rfl (by decide))
  have hD : va_D A ([(rf_MO mo mw ma mf m0 m1 mu mv u0 u1 iz th mb mn mpt mbg mwr mwk mlf men), (rf_RW ct 0 mw 958 f1_23)] ++ ws_32) := ty_permD hD (ty_ordp (E := [(rf_RW ct 0 mw 958 f1_23), (rf_MO mo mw ma mf m0 m1 mu mv u0 u1 iz th mb mn mpt mbg mwr mwk mlf men)]) (E2 := [(rf_MO mo mw ma mf m0 m1 mu mv u0 u1 iz th mb mn mpt mbg mwr mwk mlf men), (rf_RW ct 0 mw 958 f1_23)]) (n := 2) [1, 0] rfl rfl (by decide))
  exact W.vret hx hb hr (fun t ht hW => ⟨⟨(ws_32, f1_23), rfl, ⟨hT, hRf⟩, by rw [ht]; exact hP, by rw [hAe]; exact hD⟩, hS.F ht⟩) hS.2.2 dX11_comes_169
theorem dX11_startsOn_0 : decode cX11_startsOn 0 = .ok (.aload_n 0, 1) := by decide +kernel
theorem dX11_startsOn_1 : decode cX11_startsOn 1 = .ok (.iload_n 1, 1) := by decide +kernel
theorem dX11_startsOn_2 : decode cX11_startsOn 2 = .ok (.iconst 0, 1) := by decide +kernel
theorem dX11_startsOn_3 : decode cX11_startsOn 3 = .ok (.iconst 1, 1) := by decide +kernel
theorem dX11_startsOn_4 : decode cX11_startsOn 4 = .ok (.invokevirtual 234, 3) := by decide +kernel
theorem dX11_startsOn_7 : decode cX11_startsOn 7 = .ok (.aload_n 0, 1) := by decide +kernel
theorem dX11_startsOn_8 : decode cX11_startsOn 8 = .ok (.iload_n 1, 1) := by decide +kernel
theorem dX11_startsOn_9 : decode cX11_startsOn 9 = .ok (.iconst 1, 1) := by decide +kernel
theorem dX11_startsOn_10 : decode cX11_startsOn 10 = .ok (.iload_n 2, 1) := by decide +kernel
theorem dX11_startsOn_11 : decode cX11_startsOn 11 = .ok (.invokevirtual 234, 3) := by decide +kernel
theorem dX11_startsOn_14 : decode cX11_startsOn 14 = .ok (.iconst 0, 1) := by decide +kernel
theorem dX11_startsOn_15 : decode cX11_startsOn 15 = .ok (.istore_n 3, 1) := by decide +kernel
theorem dX11_startsOn_16 : decode cX11_startsOn 16 = .ok (.iload_n 3, 1) := by decide +kernel
theorem dX11_startsOn_17 : decode cX11_startsOn 17 = .ok (.bipush 12, 2) := by decide +kernel
theorem dX11_startsOn_19 : decode cX11_startsOn 19 = .ok (.if_icmp .ge 19, 3) := by decide +kernel
theorem dX11_startsOn_22 : decode cX11_startsOn 22 = .ok (.aload_n 0, 1) := by decide +kernel
theorem dX11_startsOn_23 : decode cX11_startsOn 23 = .ok (.iload_n 1, 1) := by decide +kernel
theorem dX11_startsOn_24 : decode cX11_startsOn 24 = .ok (.bipush 24, 2) := by decide +kernel
theorem dX11_startsOn_26 : decode cX11_startsOn 26 = .ok (.iload_n 3, 1) := by decide +kernel
theorem dX11_startsOn_27 : decode cX11_startsOn 27 = .ok (.iadd, 1) := by decide +kernel
theorem dX11_startsOn_28 : decode cX11_startsOn 28 = .ok (.iconst 0, 1) := by decide +kernel
theorem dX11_startsOn_29 : decode cX11_startsOn 29 = .ok (.invokevirtual 234, 3) := by decide +kernel
theorem dX11_startsOn_32 : decode cX11_startsOn 32 = .ok (.iinc 3 1, 3) := by decide +kernel
theorem dX11_startsOn_35 : decode cX11_startsOn 35 = .ok (.goto (-19), 3) := by decide +kernel
theorem dX11_startsOn_38 : decode cX11_startsOn 38 = .ok (.aload_n 0, 1) := by decide +kernel
theorem dX11_startsOn_39 : decode cX11_startsOn 39 = .ok (.iload_n 1, 1) := by decide +kernel
theorem dX11_startsOn_40 : decode cX11_startsOn 40 = .ok (.invokevirtual 272, 3) := by decide +kernel
theorem dX11_startsOn_43 : decode cX11_startsOn 43 = .ok (.aload_n 0, 1) := by decide +kernel
theorem dX11_startsOn_44 : decode cX11_startsOn 44 = .ok (.iload_n 1, 1) := by decide +kernel
theorem dX11_startsOn_45 : decode cX11_startsOn 45 = .ok (.iconst 0, 1) := by decide +kernel
theorem dX11_startsOn_46 : decode cX11_startsOn 46 = .ok (.iload_n 2, 1) := by decide +kernel
theorem dX11_startsOn_47 : decode cX11_startsOn 47 = .ok (.invokevirtual 282, 3) := by decide +kernel
theorem dX11_startsOn_50 : decode cX11_startsOn 50 = .ok (.aload_n 0, 1) := by decide +kernel
theorem dX11_startsOn_51 : decode cX11_startsOn 51 = .ok (.iload_n 1, 1) := by decide +kernel
theorem dX11_startsOn_52 : decode cX11_startsOn 52 = .ok (.iconst 0, 1) := by decide +kernel
theorem dX11_startsOn_53 : decode cX11_startsOn 53 = .ok (.invokevirtual 291, 3) := by decide +kernel
theorem dX11_startsOn_56 : decode cX11_startsOn 56 = .ok (.return_, 1) := by decide +kernel
set_option maxRecDepth 100000 in
set_option maxHeartbeats 4000000 in
theorem m_X11_startsOn (l : Launch) (D : va_G) (ct : Nat → ClassId) (S : ty_S) (ws : va_W) (ph : va_W → Prop) (xx : Nat → Nat → Nat → Prop) (mo : Nat) (mw : Nat) (ma : Nat) (mf : Nat) (m0 : Nat) (m1 : Nat) (mu : Nat) (mv : Nat) (u0 : Nat) (u1 : Nat) (iz : Nat) (mb : Nat) (th : Int32) (mn : Int32) (mpt : Int32) (mbg : Int32) (mwr : Int32) (mwk : Int32) (mlf : Int32) (men : Int32) (f : Nat → Int32) (G : Nat → Int32) (cx : Int) (p1 : Int32) (p2 : Int32) (sz : Nat) (hT : ty_V ct S ph ws) (h_mu : S mu = some (.inr (1, 42))) (h_mv : S mv = some (.inr (1, 42))) (h_u0 : S u0 = some (.inr (1, 42))) (h_u1 : S u1 = some (.inr (1, 42))) (hph : ty_C ph xx) (hy1 : ty_y1 xx) (hy11 : ty_y0 xx 11) (hR : rf_R G cx f) (hc : 0 ≤ p1.toInt ∧ p1.toInt < (G 9).toInt) (hcx : cx = -1 ∨ cx = p1.toInt) (hpr : 0 ≤ p2.toInt ∧ p2.toInt < (G 10).toInt) : Met l yX11_startsOn (ws_ yX11_startsOn cX11_startsOn 4 none) ({ frames := 2, cells := 0, slots := 0, locals := 49 } : Room) (va_Pc [.ref mo, .int p1, .int p2] (cmP D ct sz ([(rf_MO mo mw ma mf m0 m1 mu mv u0 u1 iz th mb mn mpt mbg mwr mwk mlf men), (rf_RW ct 0 mw 958 f)] ++ ws))) (va_Qv (fun (u : va_W × (Nat → Int32)) => match u with | (u9, f1) => ty_V ct S ph u9 ∧ rf_R G (-1) f1) (cmB D ([(rf_MO mo mw ma mf m0 m1 mu mv u0 u1 iz th mb mn mpt mbg mwr mwk mlf men), (rf_RW ct 0 mw 958 f)] ++ ws) sz (fun (u : va_W × (Nat → Int32)) => match u with | (u9, f1) => ([(rf_MO mo mw ma mf m0 m1 mu mv u0 u1 iz th mb mn mpt mbg mwr mwk mlf men), (rf_RW ct 0 mw 958 f1)] ++ u9))) (va_A ([(rf_MO mo mw ma mf m0 m1 mu mv u0 u1 iz th mb mn mpt mbg mwr mwk mlf men), (rf_RW ct 0 mw 958 f)] ++ ws) sz)) 0 0 (va_A ([(rf_MO mo mw ma mf m0 m1 mu mv u0 u1 iz th mb mn mpt mbg mwr mwk mlf men), (rf_RW ct 0 mw 958 f)] ++ ws) sz) := by
  refine Met.ofW (cc := cX11_startsOn) (maxL := 4) (ret := none) (by decide) rfl ?_
  intro p e s m args below meth c s₁ B hml hv
  obtain ⟨rfl, hsz, hP, hK, hD0, hX⟩ := hv
  have hx := B.exec
  have hb := B.bytes
  have hr := B.returns
  have hts := ws_all (atoms_spec (ws := ws_ yX11_startsOn cX11_startsOn 4 none) B.pre)
  have hown : s.vm.findClass RX11 = some m.cls := findClass_of_methodNamed B.named
  have hlocks := B.notSynchronized
  subst hsz
  have hD := hD0.self (sz := s.heap.size)
  generalize hAe : va_A ([(rf_MO mo mw ma mf m0 m1 mu mv u0 u1 iz th mb mn mpt mbg mwr mwk mlf men), (rf_RW ct 0 mw 958 f)] ++ ws) s.heap.size = A at hD hX ⊢
  have hA : ∀ q : Nat, s.heap.size ≤ q → A q := fun q h => by rw [← hAe]; exact Or.inr h
  have hS : va_S A s.heap s.heap [] := va_S.rf
  have hl := lv_entry ([.ref mo, .int p1, .int p2]) (n := 4) (Nat.le_of_ble_eq_true rfl)
  rw [lg_entry_eq]
  generalize (lg_sl ([.ref mo, .int p1, .int p2]) ++ List.replicate (4 - (lg_sl ([.ref mo, .int p1, .int p2])).length) Slot.unset).toArray = ls at hl ⊢
  have hl : lv_has ls 4 [(0, .ref mo), (1, .int p1), (2, .int p2)] := hl
  refine lv_aload_n hx hb dX11_startsOn_0 rfl (lv_at hl 0 rfl) ?_
  refine lv_iload_n hx hb dX11_startsOn_1 rfl (lv_at hl 1 rfl) ?_
  refine lv_iconst (v := 0) hx hb dX11_startsOn_2 (by decide) ?_
  refine lv_iconst (v := 1) hx hb dX11_startsOn_3 (by decide) ?_
  refine ty_kv (wr := []) (wc := ([(rf_MO mo mw ma mf m0 m1 mu mv u0 u1 iz th mb mn mpt mbg mwr mwk mlf men), (rf_RW ct 0 mw 958 f)] ++ ws)) (va_runV (As := [.int p1, .int 0, .int 1]) (rest := []) ⟨hx, hb, hml, hown, hts⟩ (m_put_0 l D ct S ws ph xx mo mw ma mf m0 m1 mu mv u0 u1 iz mb th mn mpt mbg mwr mwk mlf men f G cx p1 (1 : Int32) _ hT h_mu h_mv h_u0 h_u1 hph hy1 hR hc hcx) (cm_V 3 hts kc_X11_put ki_RX11 kl_RX11_234 kv_X11_put kx_X11_put kd_X11_put ⟨Nat.le_of_ble_eq_true rfl, Nat.le_of_ble_eq_true rfl⟩) (ty_preE (wr := []) (wc := ([(rf_MO mo mw ma mf m0 m1 mu mv u0 u1 iz th mb mn mpt mbg mwr mwk mlf men), (rf_RW ct 0 mw 958 f)] ++ ws)) (ci := 11) (q0 := 0) hP hK hD hS hA hX rfl rfl) rfl rfl hl.1 rfl (lv_room (Nat.le_of_ble_eq_true rfl)) dX11_startsOn_4 ⟨Nat.le_of_ble_eq_true rfl, Nat.le_of_ble_eq_true rfl⟩) hP hD hS hA (fun u H locs hw_2 hP hD hS => ?_)
  obtain ⟨ws_3, f1_4⟩ := u
  obtain ⟨hT, hp_5⟩ := hw_2
  have hp_5 : rf_R G p1.toInt f1_4 ∧ f1_4 = upd f (244 + 54 * p1.toInt.toNat + 0) (1 : Int32) := hp_5
  have hR_6 := hp_5.1
  have hP : va_P D vwCl ([(rf_MO mo mw ma mf m0 m1 mu mv u0 u1 iz th mb mn mpt mbg mwr mwk mlf men), (rf_RW ct 0 mw 958 f1_4)] ++ ws_3) H := hP
  have hD : va_D A ([(rf_MO mo mw ma mf m0 m1 mu mv u0 u1 iz th mb mn mpt mbg mwr mwk mlf men), (rf_RW ct 0 mw 958 f1_4)] ++ ws_3) := hD
  refine lv_aload_n hx hb dX11_startsOn_7 rfl (lv_at hl 0 rfl) ?_
  refine lv_iload_n hx hb dX11_startsOn_8 rfl (lv_at hl 1 rfl) ?_
  refine lv_iconst (v := 1) hx hb dX11_startsOn_9 (by decide) ?_
  refine lv_iload_n hx hb dX11_startsOn_10 rfl (lv_at hl 2 rfl) ?_
  refine ty_kv (wr := []) (wc := ([(rf_MO mo mw ma mf m0 m1 mu mv u0 u1 iz th mb mn mpt mbg mwr mwk mlf men), (rf_RW ct 0 mw 958 f1_4)] ++ ws_3)) (va_runV (As := [.int p1, .int 1, .int p2]) (rest := []) ⟨hx, hb, hml, hown, hts⟩ (m_put_1 l D ct S ws_3 ph xx mo mw ma mf m0 m1 mu mv u0 u1 iz mb th mn mpt mbg mwr mwk mlf men f1_4 G p1.toInt p1 p2 _ hT h_mu h_mv h_u0 h_u1 hph hy1 hR_6 hc (Or.inr rfl) (fun _ => (show -1 ≤ p2.toInt ∧ p2.toInt < (G 10).toInt from by omega))) (cm_V 3 hts kc_X11_put ki_RX11 kl_RX11_234 kv_X11_put kx_X11_put kd_X11_put ⟨Nat.le_of_ble_eq_true rfl, Nat.le_of_ble_eq_true rfl⟩) (ty_preE (wr := []) (wc := ([(rf_MO mo mw ma mf m0 m1 mu mv u0 u1 iz th mb mn mpt mbg mwr mwk mlf men), (rf_RW ct 0 mw 958 f1_4)] ++ ws_3)) (ci := 11) (q0 := 0) hP hK hD hS hA hX rfl rfl) rfl rfl hl.1 rfl (lv_room (Nat.le_of_ble_eq_true rfl)) dX11_startsOn_11 ⟨Nat.le_of_ble_eq_true rfl, Nat.le_of_ble_eq_true rfl⟩) hP hD hS hA (fun u H locs hw_9 hP hD hS => ?_)
  obtain ⟨ws_10, f1_11⟩ := u
  obtain ⟨hT, hp_12⟩ := hw_9
  have hp_12 : rf_R G p1.toInt f1_11 ∧ f1_11 = upd f1_4 (244 + 54 * p1.toInt.toNat + 1) p2 := hp_12
  have hR_13 := hp_12.1
  have hP : va_P D vwCl ([(rf_MO mo mw ma mf m0 m1 mu mv u0 u1 iz th mb mn mpt mbg mwr mwk mlf men), (rf_RW ct 0 mw 958 f1_11)] ++ ws_10) H := hP
  have hD : va_D A ([(rf_MO mo mw ma mf m0 m1 mu mv u0 u1 iz th mb mn mpt mbg mwr mwk mlf men), (rf_RW ct 0 mw 958 f1_11)] ++ ws_10) := hD
  have pg_15 : rf_of f1_11 p1 1 = p2 := by rw [hp_12.2]; exact rf_eq
  refine lv_iconst (v := 0) hx hb dX11_startsOn_14 (by decide) ?_
  refine lv_istore_n (lv' := [(3, .int 0), (0, .ref mo), (1, .int p1), (2, .int p2)]) hx hb dX11_startsOn_15 rfl hl (by decide) rfl (fun ls hl => ?_)
  refine lv_iload_n hx hb dX11_startsOn_16 rfl (lv_at hl 0 rfl) ?_
  refine lv_bipush (v := 12) hx hb dX11_startsOn_17 (by decide) ?_
  refine lv_icmp_ge (tgt := 38) hx hb dX11_startsOn_19 (by decide) (fun hc => absurd hc (by decide)) (fun _ => ?_)
  refine lv_aload_n hx hb dX11_startsOn_22 rfl (lv_at hl 1 rfl) ?_
  refine lv_iload_n hx hb dX11_startsOn_23 rfl (lv_at hl 2 rfl) ?_
  refine lv_bipush (v := 24) hx hb dX11_startsOn_24 (by decide) ?_
  refine lv_iload_n hx hb dX11_startsOn_26 rfl (lv_at hl 0 rfl) ?_
  refine lv_iadd hx hb dX11_startsOn_27 ?_
  refine cm_cst (y := 24) (by decide) ?_
  refine lv_iconst (v := 0) hx hb dX11_startsOn_28 (by decide) ?_
  refine ty_kv (wr := []) (wc := ([(rf_MO mo mw ma mf m0 m1 mu mv u0 u1 iz th mb mn mpt mbg mwr mwk mlf men), (rf_RW ct 0 mw 958 f1_11)] ++ ws_10)) (va_runV (As := [.int p1, .int 24, .int 0]) (rest := []) ⟨hx, hb, hml, hown, hts⟩ (m_put_24 l D ct S ws_10 ph xx mo mw ma mf m0 m1 mu mv u0 u1 iz mb th mn mpt mbg mwr mwk mlf men f1_11 G p1.toInt p1 (0 : Int32) _ hT h_mu h_mv h_u0 h_u1 hph hy1 hR_13 hc (fun _ => (show 0 ≤ (0 : Int32).toInt from by decide))) (cm_V 3 hts kc_X11_put ki_RX11 kl_RX11_234 kv_X11_put kx_X11_put kd_X11_put ⟨Nat.le_of_ble_eq_true rfl, Nat.le_of_ble_eq_true rfl⟩) (ty_preE (wr := []) (wc := ([(rf_MO mo mw ma mf m0 m1 mu mv u0 u1 iz th mb mn mpt mbg mwr mwk mlf men), (rf_RW ct 0 mw 958 f1_11)] ++ ws_10)) (ci := 11) (q0 := 0) hP hK hD hS hA hX rfl rfl) rfl rfl hl.1 rfl (lv_room (Nat.le_of_ble_eq_true rfl)) dX11_startsOn_29 ⟨Nat.le_of_ble_eq_true rfl, Nat.le_of_ble_eq_true rfl⟩) hP hD hS hA (fun u H locs hw_17 hP hD hS => ?_)
  obtain ⟨ws_18, f1_19⟩ := u
  obtain ⟨hT, hp_20⟩ := hw_17
  have hp_20 : rf_R G p1.toInt f1_19 ∧ rf_sm f1_11 f1_19 ∧ f1_19 = upd f1_11 (244 + 54 * p1.toInt.toNat + 24) (0 : Int32) := hp_20
  have hR_21 := hp_20.1
  have pg_23 := (rf_smof (rf_c6 hR_13 hc) hp_20.2.1 (k := 1) (by decide)).trans pg_15
  have hP : va_P D vwCl ([(rf_MO mo mw ma mf m0 m1 mu mv u0 u1 iz th mb mn mpt mbg mwr mwk mlf men), (rf_RW ct 0 mw 958 f1_19)] ++ ws_18) H := hP
  have hD : va_D A ([(rf_MO mo mw ma mf m0 m1 mu mv u0 u1 iz th mb mn mpt mbg mwr mwk mlf men), (rf_RW ct 0 mw 958 f1_19)] ++ ws_18) := hD
  refine lv_iinc (v := 1) (lv' := [(3, .int 1), (0, .ref mo), (1, .int p1), (2, .int p2)]) hx hb dX11_startsOn_32 hl (k := 0) rfl (by decide) (by decide) rfl (fun ls hl => ?_)
  refine lv_goto (tgt := 16) hx hb dX11_startsOn_35 (by decide) ?_
  refine lv_iload_n hx hb dX11_startsOn_16 rfl (lv_at hl 0 rfl) ?_
  refine lv_bipush (v := 12) hx hb dX11_startsOn_17 (by decide) ?_
  refine lv_icmp_ge (tgt := 38) hx hb dX11_startsOn_19 (by decide) (fun hc => absurd hc (by decide)) (fun _ => ?_)
  refine lv_aload_n hx hb dX11_startsOn_22 rfl (lv_at hl 1 rfl) ?_
  refine lv_iload_n hx hb dX11_startsOn_23 rfl (lv_at hl 2 rfl) ?_
  refine lv_bipush (v := 24) hx hb dX11_startsOn_24 (by decide) ?_
  refine lv_iload_n hx hb dX11_startsOn_26 rfl (lv_at hl 0 rfl) ?_
  refine lv_iadd hx hb dX11_startsOn_27 ?_
  refine cm_cst (y := 25) (by decide) ?_
  refine lv_iconst (v := 0) hx hb dX11_startsOn_28 (by decide) ?_
  refine ty_kv (wr := []) (wc := ([(rf_MO mo mw ma mf m0 m1 mu mv u0 u1 iz th mb mn mpt mbg mwr mwk mlf men), (rf_RW ct 0 mw 958 f1_19)] ++ ws_18)) (va_runV (As := [.int p1, .int 25, .int 0]) (rest := []) ⟨hx, hb, hml, hown, hts⟩ (m_put_25 l D ct S ws_18 ph xx mo mw ma mf m0 m1 mu mv u0 u1 iz mb th mn mpt mbg mwr mwk mlf men f1_19 G p1.toInt p1 (0 : Int32) _ hT h_mu h_mv h_u0 h_u1 hph hy1 hR_21 hc (fun _ => (show 0 ≤ (0 : Int32).toInt from by decide))) (cm_V 3 hts kc_X11_put ki_RX11 kl_RX11_234 kv_X11_put kx_X11_put kd_X11_put ⟨Nat.le_of_ble_eq_true rfl, Nat.le_of_ble_eq_true rfl⟩) (ty_preE (wr := []) (wc := ([(rf_MO mo mw ma mf m0 m1 mu mv u0 u1 iz th mb mn mpt mbg mwr mwk mlf men), (rf_RW ct 0 mw 958 f1_19)] ++ ws_18)) (ci := 11) (q0 := 0) hP hK hD hS hA hX rfl rfl) rfl rfl hl.1 rfl (lv_room (Nat.le_of_ble_eq_true rfl)) dX11_startsOn_29 ⟨Nat.le_of_ble_eq_true rfl, Nat.le_of_ble_eq_true rfl⟩) hP hD hS hA (fun u H locs hw_25 hP hD hS => ?_)
  obtain ⟨ws_26, f1_27⟩ := u
  obtain ⟨hT, hp_28⟩ := hw_25
  have hp_28 : rf_R G p1.toInt f1_27 ∧ rf_sm f1_19 f1_27 ∧ f1_27 = upd f1_19 (244 + 54 * p1.toInt.toNat + 25) (0 : Int32) := hp_28
  have hR_29 := hp_28.1
  have pg_31 := (rf_smof (rf_c6 hR_21 hc) hp_28.2.1 (k := 1) (by decide)).trans pg_23
  have hP : va_P D vwCl ([(rf_MO mo mw ma mf m0 m1 mu mv u0 u1 iz th mb mn mpt mbg mwr mwk mlf men), (rf_RW ct 0 mw 958 f1_27)] ++ ws_26) H := hP
  have hD : va_D A ([(rf_MO mo mw ma mf m0 m1 mu mv u0 u1 iz th mb mn mpt mbg mwr mwk mlf men), (rf_RW ct 0 mw 958 f1_27)] ++ ws_26) := hD
  refine lv_iinc (v := 2) (lv' := [(3, .int 2), (0, .ref mo), (1, .int p1), (2, .int p2)]) hx hb dX11_startsOn_32 hl (k := 0) rfl (by decide) (by decide) rfl (fun ls hl => ?_)
  refine lv_goto (tgt := 16) hx hb dX11_startsOn_35 (by decide) ?_
  refine lv_iload_n hx hb dX11_startsOn_16 rfl (lv_at hl 0 rfl) ?_
  refine lv_bipush (v := 12) hx hb dX11_startsOn_17 (by decide) ?_
  refine lv_icmp_ge (tgt := 38) hx hb dX11_startsOn_19 (by decide) (fun hc => absurd hc (by decide)) (fun _ => ?_)
  refine lv_aload_n hx hb dX11_startsOn_22 rfl (lv_at hl 1 rfl) ?_
  refine lv_iload_n hx hb dX11_startsOn_23 rfl (lv_at hl 2 rfl) ?_
  refine lv_bipush (v := 24) hx hb dX11_startsOn_24 (by decide) ?_
  refine lv_iload_n hx hb dX11_startsOn_26 rfl (lv_at hl 0 rfl) ?_
  refine lv_iadd hx hb dX11_startsOn_27 ?_
  refine cm_cst (y := 26) (by decide) ?_
  refine lv_iconst (v := 0) hx hb dX11_startsOn_28 (by decide) ?_
  refine ty_kv (wr := []) (wc := ([(rf_MO mo mw ma mf m0 m1 mu mv u0 u1 iz th mb mn mpt mbg mwr mwk mlf men), (rf_RW ct 0 mw 958 f1_27)] ++ ws_26)) (va_runV (As := [.int p1, .int 26, .int 0]) (rest := []) ⟨hx, hb, hml, hown, hts⟩ (m_put_26 l D ct S ws_26 ph xx mo mw ma mf m0 m1 mu mv u0 u1 iz mb th mn mpt mbg mwr mwk mlf men f1_27 G p1.toInt p1 (0 : Int32) _ hT h_mu h_mv h_u0 h_u1 hph hy1 hR_29 hc (fun _ => (show 0 ≤ (0 : Int32).toInt from by decide))) (cm_V 3 hts kc_X11_put ki_RX11 kl_RX11_234 kv_X11_put kx_X11_put kd_X11_put ⟨Nat.le_of_ble_eq_true rfl, Nat.le_of_ble_eq_true rfl⟩) (ty_preE (wr := []) (wc := ([(rf_MO mo mw ma mf m0 m1 mu mv u0 u1 iz th mb mn mpt mbg mwr mwk mlf men), (rf_RW ct 0 mw 958 f1_27)] ++ ws_26)) (ci := 11) (q0 := 0) hP hK hD hS hA hX rfl rfl) rfl rfl hl.1 rfl (lv_room (Nat.le_of_ble_eq_true rfl)) dX11_startsOn_29 ⟨Nat.le_of_ble_eq_true rfl, Nat.le_of_ble_eq_true rfl⟩) hP hD hS hA (fun u H locs hw_33 hP hD hS => ?_)
  obtain ⟨ws_34, f1_35⟩ := u
  obtain ⟨hT, hp_36⟩ := hw_33
  have hp_36 : rf_R G p1.toInt f1_35 ∧ rf_sm f1_27 f1_35 ∧ f1_35 = upd f1_27 (244 + 54 * p1.toInt.toNat + 26) (0 : Int32) := hp_36
  have hR_37 := hp_36.1
  have pg_39 := (rf_smof (rf_c6 hR_29 hc) hp_36.2.1 (k := 1) (by decide)).trans pg_31
  have hP : va_P D vwCl ([(rf_MO mo mw ma mf m0 m1 mu mv u0 u1 iz th mb mn mpt mbg mwr mwk mlf men), (rf_RW ct 0 mw 958 f1_35)] ++ ws_34) H := hP
  have hD : va_D A ([(rf_MO mo mw ma mf m0 m1 mu mv u0 u1 iz th mb mn mpt mbg mwr mwk mlf men), (rf_RW ct 0 mw 958 f1_35)] ++ ws_34) := hD
  refine lv_iinc (v := 3) (lv' := [(3, .int 3), (0, .ref mo), (1, .int p1), (2, .int p2)]) hx hb dX11_startsOn_32 hl (k := 0) rfl (by decide) (by decide) rfl (fun ls hl => ?_)
  refine lv_goto (tgt := 16) hx hb dX11_startsOn_35 (by decide) ?_
  refine lv_iload_n hx hb dX11_startsOn_16 rfl (lv_at hl 0 rfl) ?_
  refine lv_bipush (v := 12) hx hb dX11_startsOn_17 (by decide) ?_
  refine lv_icmp_ge (tgt := 38) hx hb dX11_startsOn_19 (by decide) (fun hc => absurd hc (by decide)) (fun _ => ?_)
  refine lv_aload_n hx hb dX11_startsOn_22 rfl (lv_at hl 1 rfl) ?_
  refine lv_iload_n hx hb dX11_startsOn_23 rfl (lv_at hl 2 rfl) ?_
  refine lv_bipush (v := 24) hx hb dX11_startsOn_24 (by decide) ?_
  refine lv_iload_n hx hb dX11_startsOn_26 rfl (lv_at hl 0 rfl) ?_
  refine lv_iadd hx hb dX11_startsOn_27 ?_
  refine cm_cst (y := 27) (by decide) ?_
  refine lv_iconst (v := 0) hx hb dX11_startsOn_28 (by decide) ?_
  refine ty_kv (wr := []) (wc := ([(rf_MO mo mw ma mf m0 m1 mu mv u0 u1 iz th mb mn mpt mbg mwr mwk mlf men), (rf_RW ct 0 mw 958 f1_35)] ++ ws_34)) (va_runV (As := [.int p1, .int 27, .int 0]) (rest := []) ⟨hx, hb, hml, hown, hts⟩ (m_put_27 l D ct S ws_34 ph xx mo mw ma mf m0 m1 mu mv u0 u1 iz mb th mn mpt mbg mwr mwk mlf men f1_35 G p1.toInt p1 (0 : Int32) _ hT h_mu h_mv h_u0 h_u1 hph hy1 hR_37 hc (fun _ => (show 0 ≤ (0 : Int32).toInt from by decide))) (cm_V 3 hts kc_X11_put ki_RX11 kl_RX11_234 kv_X11_put kx_X11_put kd_X11_put ⟨Nat.le_of_ble_eq_true rfl, Nat.le_of_ble_eq_true rfl⟩) (ty_preE (wr := []) (wc := ([(rf_MO mo mw ma mf m0 m1 mu mv u0 u1 iz th mb mn mpt mbg mwr mwk mlf men), (rf_RW ct 0 mw 958 f1_35)] ++ ws_34)) (ci := 11) (q0 := 0) hP hK hD hS hA hX rfl rfl) rfl rfl hl.1 rfl (lv_room (Nat.le_of_ble_eq_true rfl)) dX11_startsOn_29 ⟨Nat.le_of_ble_eq_true rfl, Nat.le_of_ble_eq_true rfl⟩) hP hD hS hA (fun u H locs hw_41 hP hD hS => ?_)
  obtain ⟨ws_42, f1_43⟩ := u
  obtain ⟨hT, hp_44⟩ := hw_41
  have hp_44 : rf_R G p1.toInt f1_43 ∧ rf_sm f1_35 f1_43 ∧ f1_43 = upd f1_35 (244 + 54 * p1.toInt.toNat + 27) (0 : Int32) := hp_44
  have hR_45 := hp_44.1
  have pg_47 := (rf_smof (rf_c6 hR_37 hc) hp_44.2.1 (k := 1) (by decide)).trans pg_39
  have hP : va_P D vwCl ([(rf_MO mo mw ma mf m0 m1 mu mv u0 u1 iz th mb mn mpt mbg mwr mwk mlf men), (rf_RW ct 0 mw 958 f1_43)] ++ ws_42) H := hP
  have hD : va_D A ([(rf_MO mo mw ma mf m0 m1 mu mv u0 u1 iz th mb mn mpt mbg mwr mwk mlf men), (rf_RW ct 0 mw 958 f1_43)] ++ ws_42) := hD
  refine lv_iinc (v := 4) (lv' := [(3, .int 4), (0, .ref mo), (1, .int p1), (2, .int p2)]) hx hb dX11_startsOn_32 hl (k := 0) rfl (by decide) (by decide) rfl (fun ls hl => ?_)
  refine lv_goto (tgt := 16) hx hb dX11_startsOn_35 (by decide) ?_
  refine lv_iload_n hx hb dX11_startsOn_16 rfl (lv_at hl 0 rfl) ?_
  refine lv_bipush (v := 12) hx hb dX11_startsOn_17 (by decide) ?_
  refine lv_icmp_ge (tgt := 38) hx hb dX11_startsOn_19 (by decide) (fun hc => absurd hc (by decide)) (fun _ => ?_)
  refine lv_aload_n hx hb dX11_startsOn_22 rfl (lv_at hl 1 rfl) ?_
  refine lv_iload_n hx hb dX11_startsOn_23 rfl (lv_at hl 2 rfl) ?_
  refine lv_bipush (v := 24) hx hb dX11_startsOn_24 (by decide) ?_
  refine lv_iload_n hx hb dX11_startsOn_26 rfl (lv_at hl 0 rfl) ?_
  refine lv_iadd hx hb dX11_startsOn_27 ?_
  refine cm_cst (y := 28) (by decide) ?_
  refine lv_iconst (v := 0) hx hb dX11_startsOn_28 (by decide) ?_
  refine ty_kv (wr := []) (wc := ([(rf_MO mo mw ma mf m0 m1 mu mv u0 u1 iz th mb mn mpt mbg mwr mwk mlf men), (rf_RW ct 0 mw 958 f1_43)] ++ ws_42)) (va_runV (As := [.int p1, .int 28, .int 0]) (rest := []) ⟨hx, hb, hml, hown, hts⟩ (m_put_28 l D ct S ws_42 ph xx mo mw ma mf m0 m1 mu mv u0 u1 iz mb th mn mpt mbg mwr mwk mlf men f1_43 G p1.toInt p1 (0 : Int32) _ hT h_mu h_mv h_u0 h_u1 hph hy1 hR_45 hc (fun _ => (show 0 ≤ (0 : Int32).toInt from by decide))) (cm_V 3 hts kc_X11_put ki_RX11 kl_RX11_234 kv_X11_put kx_X11_put kd_X11_put ⟨Nat.le_of_ble_eq_true rfl, Nat.le_of_ble_eq_true rfl⟩) (ty_preE (wr := []) (wc := ([(rf_MO mo mw ma mf m0 m1 mu mv u0 u1 iz th mb mn mpt mbg mwr mwk mlf men), (rf_RW ct 0 mw 958 f1_43)] ++ ws_42)) (ci := 11) (q0 := 0) hP hK hD hS hA hX rfl rfl) rfl rfl hl.1 rfl (lv_room (Nat.le_of_ble_eq_true rfl)) dX11_startsOn_29 ⟨Nat.le_of_ble_eq_true rfl, Nat.le_of_ble_eq_true rfl⟩) hP hD hS hA (fun u H locs hw_49 hP hD hS => ?_)
  obtain ⟨ws_50, f1_51⟩ := u
  obtain ⟨hT, hp_52⟩ := hw_49
  have hp_52 : rf_R G p1.toInt f1_51 ∧ rf_sm f1_43 f1_51 ∧ f1_51 = upd f1_43 (244 + 54 * p1.toInt.toNat + 28) (0 : Int32) := hp_52
  have hR_53 := hp_52.1
  have pg_55 := (rf_smof (rf_c6 hR_45 hc) hp_52.2.1 (k := 1) (by decide)).trans pg_47
  have hP : va_P D vwCl ([(rf_MO mo mw ma mf m0 m1 mu mv u0 u1 iz th mb mn mpt mbg mwr mwk mlf men), (rf_RW ct 0 mw 958 f1_51)] ++ ws_50) H := hP
  have hD : va_D A ([(rf_MO mo mw ma mf m0 m1 mu mv u0 u1 iz th mb mn mpt mbg mwr mwk mlf men), (rf_RW ct 0 mw 958 f1_51)] ++ ws_50) := hD
  refine lv_iinc (v := 5) (lv' := [(3, .int 5), (0, .ref mo), (1, .int p1), (2, .int p2)]) hx hb dX11_startsOn_32 hl (k := 0) rfl (by decide) (by decide) rfl (fun ls hl => ?_)
  refine lv_goto (tgt := 16) hx hb dX11_startsOn_35 (by decide) ?_
  refine lv_iload_n hx hb dX11_startsOn_16 rfl (lv_at hl 0 rfl) ?_
  refine lv_bipush (v := 12) hx hb dX11_startsOn_17 (by decide) ?_
  refine lv_icmp_ge (tgt := 38) hx hb dX11_startsOn_19 (by decide) (fun hc => absurd hc (by decide)) (fun _ => ?_)
  refine lv_aload_n hx hb dX11_startsOn_22 rfl (lv_at hl 1 rfl) ?_
  refine lv_iload_n hx hb dX11_startsOn_23 rfl (lv_at hl 2 rfl) ?_
  refine lv_bipush (v := 24) hx hb dX11_startsOn_24 (by decide) ?_
  refine lv_iload_n hx hb dX11_startsOn_26 rfl (lv_at hl 0 rfl) ?_
  refine lv_iadd hx hb dX11_startsOn_27 ?_
  refine cm_cst (y := 29) (by decide) ?_
  refine lv_iconst (v := 0) hx hb dX11_startsOn_28 (by decide) ?_
  refine ty_kv (wr := []) (wc := ([(rf_MO mo mw ma mf m0 m1 mu mv u0 u1 iz th mb mn mpt mbg mwr mwk mlf men), (rf_RW ct 0 mw 958 f1_51)] ++ ws_50)) (va_runV (As := [.int p1, .int 29, .int 0]) (rest := []) ⟨hx, hb, hml, hown, hts⟩ (m_put_29 l D ct S ws_50 ph xx mo mw ma mf m0 m1 mu mv u0 u1 iz mb th mn mpt mbg mwr mwk mlf men f1_51 G p1.toInt p1 (0 : Int32) _ hT h_mu h_mv h_u0 h_u1 hph hy1 hR_53 hc (fun _ => (show 0 ≤ (0 : Int32).toInt from by decide))) (cm_V 3 hts kc_X11_put ki_RX11 kl_RX11_234 kv_X11_put kx_X11_put kd_X11_put ⟨Nat.le_of_ble_eq_true rfl, Nat.le_of_ble_eq_true rfl⟩) (ty_preE (wr := []) (wc := ([(rf_MO mo mw ma mf m0 m1 mu mv u0 u1 iz th mb mn mpt mbg mwr mwk mlf men), (rf_RW ct 0 mw 958 f1_51)] ++ ws_50)) (ci := 11) (q0 := 0) hP hK hD hS hA hX rfl rfl) rfl rfl hl.1 rfl (lv_room (Nat.le_of_ble_eq_true rfl)) dX11_startsOn_29 ⟨Nat.le_of_ble_eq_true rfl, Nat.le_of_ble_eq_true rfl⟩) hP hD hS hA (fun u H locs hw_57 hP hD hS => ?_)
  obtain ⟨ws_58, f1_59⟩ := u
  obtain ⟨hT, hp_60⟩ := hw_57
  have hp_60 : rf_R G p1.toInt f1_59 ∧ rf_sm f1_51 f1_59 ∧ f1_59 = upd f1_51 (244 + 54 * p1.toInt.toNat + 29) (0 : Int32) := hp_60
  have hR_61 := hp_60.1
  have pg_63 := (rf_smof (rf_c6 hR_53 hc) hp_60.2.1 (k := 1) (by decide)).trans pg_55
  have hP : va_P D vwCl ([(rf_MO mo mw ma mf m0 m1 mu mv u0 u1 iz th mb mn mpt mbg mwr mwk mlf men), (rf_RW ct 0 mw 958 f1_59)] ++ ws_58) H := hP
  have hD : va_D A ([(rf_MO mo mw ma mf m0 m1 mu mv u0 u1 iz th mb mn mpt mbg mwr mwk mlf men), (rf_RW ct 0 mw 958 f1_59)] ++ ws_58) := hD
  refine lv_iinc (v := 6) (lv' := [(3, .int 6), (0, .ref mo), (1, .int p1), (2, .int p2)]) hx hb dX11_startsOn_32 hl (k := 0) rfl (by decide) (by decide) rfl (fun ls hl => ?_)
  refine lv_goto (tgt := 16) hx hb dX11_startsOn_35 (by decide) ?_
  refine lv_iload_n hx hb dX11_startsOn_16 rfl (lv_at hl 0 rfl) ?_
  refine lv_bipush (v := 12) hx hb dX11_startsOn_17 (by decide) ?_
  refine lv_icmp_ge (tgt := 38) hx hb dX11_startsOn_19 (by decide) (fun hc => absurd hc (by decide)) (fun _ => ?_)
  refine lv_aload_n hx hb dX11_startsOn_22 rfl (lv_at hl 1 rfl) ?_
  refine lv_iload_n hx hb dX11_startsOn_23 rfl (lv_at hl 2 rfl) ?_
  refine lv_bipush (v := 24) hx hb dX11_startsOn_24 (by decide) ?_
  refine lv_iload_n hx hb dX11_startsOn_26 rfl (lv_at hl 0 rfl) ?_
  refine lv_iadd hx hb dX11_startsOn_27 ?_
  refine cm_cst (y := 30) (by decide) ?_
  refine lv_iconst (v := 0) hx hb dX11_startsOn_28 (by decide) ?_
  refine ty_kv (wr := []) (wc := ([(rf_MO mo mw ma mf m0 m1 mu mv u0 u1 iz th mb mn mpt mbg mwr mwk mlf men), (rf_RW ct 0 mw 958 f1_59)] ++ ws_58)) (va_runV (As := [.int p1, .int 30, .int 0]) (rest := []) ⟨hx, hb, hml, hown, hts⟩ (m_put_30 l D ct S ws_58 ph xx mo mw ma mf m0 m1 mu mv u0 u1 iz mb th mn mpt mbg mwr mwk mlf men f1_59 G p1.toInt p1 (0 : Int32) _ hT h_mu h_mv h_u0 h_u1 hph hy1 hR_61 hc (fun _ => (show 0 ≤ (0 : Int32).toInt from by decide))) (cm_V 3 hts kc_X11_put ki_RX11 kl_RX11_234 kv_X11_put kx_X11_put kd_X11_put ⟨Nat.le_of_ble_eq_true rfl, Nat.le_of_ble_eq_true rfl⟩) (ty_preE (wr := []) (wc := ([(rf_MO mo mw ma mf m0 m1 mu mv u0 u1 iz th mb mn mpt mbg mwr mwk mlf men), (rf_RW ct 0 mw 958 f1_59)] ++ ws_58)) (ci := 11) (q0 := 0) hP hK hD hS hA hX rfl rfl) rfl rfl hl.1 rfl (lv_room (Nat.le_of_ble_eq_true rfl)) dX11_startsOn_29 ⟨Nat.le_of_ble_eq_true rfl, Nat.le_of_ble_eq_true rfl⟩) hP hD hS hA (fun u H locs hw_65 hP hD hS => ?_)
  obtain ⟨ws_66, f1_67⟩ := u
  obtain ⟨hT, hp_68⟩ := hw_65
  have hp_68 : rf_R G p1.toInt f1_67 ∧ rf_sm f1_59 f1_67 ∧ f1_67 = upd f1_59 (244 + 54 * p1.toInt.toNat + 30) (0 : Int32) := hp_68
  have hR_69 := hp_68.1
  have pg_71 := (rf_smof (rf_c6 hR_61 hc) hp_68.2.1 (k := 1) (by decide)).trans pg_63
  have hP : va_P D vwCl ([(rf_MO mo mw ma mf m0 m1 mu mv u0 u1 iz th mb mn mpt mbg mwr mwk mlf men), (rf_RW ct 0 mw 958 f1_67)] ++ ws_66) H := hP
  have hD : va_D A ([(rf_MO mo mw ma mf m0 m1 mu mv u0 u1 iz th mb mn mpt mbg mwr mwk mlf men), (rf_RW ct 0 mw 958 f1_67)] ++ ws_66) := hD
  refine lv_iinc (v := 7) (lv' := [(3, .int 7), (0, .ref mo), (1, .int p1), (2, .int p2)]) hx hb dX11_startsOn_32 hl (k := 0) rfl (by decide) (by decide) rfl (fun ls hl => ?_)
  refine lv_goto (tgt := 16) hx hb dX11_startsOn_35 (by decide) ?_
  refine lv_iload_n hx hb dX11_startsOn_16 rfl (lv_at hl 0 rfl) ?_
  refine lv_bipush (v := 12) hx hb dX11_startsOn_17 (by decide) ?_
  refine lv_icmp_ge (tgt := 38) hx hb dX11_startsOn_19 (by decide) (fun hc => absurd hc (by decide)) (fun _ => ?_)
  refine lv_aload_n hx hb dX11_startsOn_22 rfl (lv_at hl 1 rfl) ?_
  refine lv_iload_n hx hb dX11_startsOn_23 rfl (lv_at hl 2 rfl) ?_
  refine lv_bipush (v := 24) hx hb dX11_startsOn_24 (by decide) ?_
  refine lv_iload_n hx hb dX11_startsOn_26 rfl (lv_at hl 0 rfl) ?_
  refine lv_iadd hx hb dX11_startsOn_27 ?_
  refine cm_cst (y := 31) (by decide) ?_
  refine lv_iconst (v := 0) hx hb dX11_startsOn_28 (by decide) ?_
  refine ty_kv (wr := []) (wc := ([(rf_MO mo mw ma mf m0 m1 mu mv u0 u1 iz th mb mn mpt mbg mwr mwk mlf men), (rf_RW ct 0 mw 958 f1_67)] ++ ws_66)) (va_runV (As := [.int p1, .int 31, .int 0]) (rest := []) ⟨hx, hb, hml, hown, hts⟩ (m_put_31 l D ct S ws_66 ph xx mo mw ma mf m0 m1 mu mv u0 u1 iz mb th mn mpt mbg mwr mwk mlf men f1_67 G p1.toInt p1 (0 : Int32) _ hT h_mu h_mv h_u0 h_u1 hph hy1 hR_69 hc (fun _ => (show 0 ≤ (0 : Int32).toInt from by decide))) (cm_V 3 hts kc_X11_put ki_RX11 kl_RX11_234 kv_X11_put kx_X11_put kd_X11_put ⟨Nat.le_of_ble_eq_true rfl, Nat.le_of_ble_eq_true rfl⟩) (ty_preE (wr := []) (wc := ([(rf_MO mo mw ma mf m0 m1 mu mv u0 u1 iz th mb mn mpt mbg mwr mwk mlf men), (rf_RW ct 0 mw 958 f1_67)] ++ ws_66)) (ci := 11) (q0 := 0) hP hK hD hS hA hX rfl rfl) rfl rfl hl.1 rfl (lv_room (Nat.le_of_ble_eq_true rfl)) dX11_startsOn_29 ⟨Nat.le_of_ble_eq_true rfl, Nat.le_of_ble_eq_true rfl⟩) hP hD hS hA (fun u H locs hw_73 hP hD hS => ?_)
  obtain ⟨ws_74, f1_75⟩ := u
  obtain ⟨hT, hp_76⟩ := hw_73
  have hp_76 : rf_R G p1.toInt f1_75 ∧ rf_sm f1_67 f1_75 ∧ f1_75 = upd f1_67 (244 + 54 * p1.toInt.toNat + 31) (0 : Int32) := hp_76
  have hR_77 := hp_76.1
  have pg_79 := (rf_smof (rf_c6 hR_69 hc) hp_76.2.1 (k := 1) (by decide)).trans pg_71
  have hP : va_P D vwCl ([(rf_MO mo mw ma mf m0 m1 mu mv u0 u1 iz th mb mn mpt mbg mwr mwk mlf men), (rf_RW ct 0 mw 958 f1_75)] ++ ws_74) H := hP
  have hD : va_D A ([(rf_MO mo mw ma mf m0 m1 mu mv u0 u1 iz th mb mn mpt mbg mwr mwk mlf men), (rf_RW ct 0 mw 958 f1_75)] ++ ws_74) := hD
  refine lv_iinc (v := 8) (lv' := [(3, .int 8), (0, .ref mo), (1, .int p1), (2, .int p2)]) hx hb dX11_startsOn_32 hl (k := 0) rfl (by decide) (by decide) rfl (fun ls hl => ?_)
  refine lv_goto (tgt := 16) hx hb dX11_startsOn_35 (by decide) ?_
  refine lv_iload_n hx hb dX11_startsOn_16 rfl (lv_at hl 0 rfl) ?_
  refine lv_bipush (v := 12) hx hb dX11_startsOn_17 (by decide) ?_
  refine lv_icmp_ge (tgt := 38) hx hb dX11_startsOn_19 (by decide) (fun hc => absurd hc (by decide)) (fun _ => ?_)
  refine lv_aload_n hx hb dX11_startsOn_22 rfl (lv_at hl 1 rfl) ?_
  refine lv_iload_n hx hb dX11_startsOn_23 rfl (lv_at hl 2 rfl) ?_
  refine lv_bipush (v := 24) hx hb dX11_startsOn_24 (by decide) ?_
  refine lv_iload_n hx hb dX11_startsOn_26 rfl (lv_at hl 0 rfl) ?_
  refine lv_iadd hx hb dX11_startsOn_27 ?_
  refine cm_cst (y := 32) (by decide) ?_
  refine lv_iconst (v := 0) hx hb dX11_startsOn_28 (by decide) ?_
  refine ty_kv (wr := []) (wc := ([(rf_MO mo mw ma mf m0 m1 mu mv u0 u1 iz th mb mn mpt mbg mwr mwk mlf men), (rf_RW ct 0 mw 958 f1_75)] ++ ws_74)) (va_runV (As := [.int p1, .int 32, .int 0]) (rest := []) ⟨hx, hb, hml, hown, hts⟩ (m_put_32 l D ct S ws_74 ph xx mo mw ma mf m0 m1 mu mv u0 u1 iz mb th mn mpt mbg mwr mwk mlf men f1_75 G p1.toInt p1 (0 : Int32) _ hT h_mu h_mv h_u0 h_u1 hph hy1 hR_77 hc (fun _ => (show 0 ≤ (0 : Int32).toInt from by decide))) (cm_V 3 hts kc_X11_put ki_RX11 kl_RX11_234 kv_X11_put kx_X11_put kd_X11_put ⟨Nat.le_of_ble_eq_true rfl, Nat.le_of_ble_eq_true rfl⟩) (ty_preE (wr := []) (wc := ([(rf_MO mo mw ma mf m0 m1 mu mv u0 u1 iz th mb mn mpt mbg mwr mwk mlf men), (rf_RW ct 0 mw 958 f1_75)] ++ ws_74)) (ci := 11) (q0 := 0) hP hK hD hS hA hX rfl rfl) rfl rfl hl.1 rfl (lv_room (Nat.le_of_ble_eq_true rfl)) dX11_startsOn_29 ⟨Nat.le_of_ble_eq_true rfl, Nat.le_of_ble_eq_true rfl⟩) hP hD hS hA (fun u H locs hw_81 hP hD hS => ?_)
  obtain ⟨ws_82, f1_83⟩ := u
  obtain ⟨hT, hp_84⟩ := hw_81
  have hp_84 : rf_R G p1.toInt f1_83 ∧ rf_sm f1_75 f1_83 ∧ f1_83 = upd f1_75 (244 + 54 * p1.toInt.toNat + 32) (0 : Int32) := hp_84
  have hR_85 := hp_84.1
  have pg_87 := (rf_smof (rf_c6 hR_77 hc) hp_84.2.1 (k := 1) (by decide)).trans pg_79
  have hP : va_P D vwCl ([(rf_MO mo mw ma mf m0 m1 mu mv u0 u1 iz th mb mn mpt mbg mwr mwk mlf men), (rf_RW ct 0 mw 958 f1_83)] ++ ws_82) H := hP
  have hD : va_D A ([(rf_MO mo mw ma mf m0 m1 mu mv u0 u1 iz th mb mn mpt mbg mwr mwk mlf men), (rf_RW ct 0 mw 958 f1_83)] ++ ws_82) := hD
  refine lv_iinc (v := 9) (lv' := [(3, .int 9), (0, .ref mo), (1, .int p1), (2, .int p2)]) hx hb dX11_startsOn_32 hl (k := 0) rfl (by decide) (by decide) rfl (fun ls hl => ?_)
  refine lv_goto (tgt := 16) hx hb dX11_startsOn_35 (by decide) ?_
  refine lv_iload_n hx hb dX11_startsOn_16 rfl (lv_at hl 0 rfl) ?_
  refine lv_bipush (v := 12) hx hb dX11_startsOn_17 (by decide) ?_
  refine lv_icmp_ge (tgt := 38) hx hb dX11_startsOn_19 (by decide) (fun hc => absurd hc (by decide)) (fun _ => ?_)
  refine lv_aload_n hx hb dX11_startsOn_22 rfl (lv_at hl 1 rfl) ?_
  refine lv_iload_n hx hb dX11_startsOn_23 rfl (lv_at hl 2 rfl) ?_
  refine lv_bipush (v := 24) hx hb dX11_startsOn_24 (by decide) ?_
  refine lv_iload_n hx hb dX11_startsOn_26 rfl (lv_at hl 0 rfl) ?_
  refine lv_iadd hx hb dX11_startsOn_27 ?_
  refine cm_cst (y := 33) (by decide) ?_
  refine lv_iconst (v := 0) hx hb dX11_startsOn_28 (by decide) ?_
  refine ty_kv (wr := []) (wc := ([(rf_MO mo mw ma mf m0 m1 mu mv u0 u1 iz th mb mn mpt mbg mwr mwk mlf men), (rf_RW ct 0 mw 958 f1_83)] ++ ws_82)) (va_runV (As := [.int p1, .int 33, .int 0]) (rest := []) ⟨hx, hb, hml, hown, hts⟩ (m_put_33 l D ct S ws_82 ph xx mo mw ma mf m0 m1 mu mv u0 u1 iz mb th mn mpt mbg mwr mwk mlf men f1_83 G p1.toInt p1 (0 : Int32) _ hT h_mu h_mv h_u0 h_u1 hph hy1 hR_85 hc (fun _ => (show 0 ≤ (0 : Int32).toInt from by decide))) (cm_V 3 hts kc_X11_put ki_RX11 kl_RX11_234 kv_X11_put kx_X11_put kd_X11_put ⟨Nat.le_of_ble_eq_true rfl, Nat.le_of_ble_eq_true rfl⟩) (ty_preE (wr := []) (wc := ([(rf_MO mo mw ma mf m0 m1 mu mv u0 u1 iz th mb mn mpt mbg mwr mwk mlf men), (rf_RW ct 0 mw 958 f1_83)] ++ ws_82)) (ci := 11) (q0 := 0) hP hK hD hS hA hX rfl rfl) rfl rfl hl.1 rfl (lv_room (Nat.le_of_ble_eq_true rfl)) dX11_startsOn_29 ⟨Nat.le_of_ble_eq_true rfl, Nat.le_of_ble_eq_true rfl⟩) hP hD hS hA (fun u H locs hw_89 hP hD hS => ?_)
  obtain ⟨ws_90, f1_91⟩ := u
  obtain ⟨hT, hp_92⟩ := hw_89
  have hp_92 : rf_R G p1.toInt f1_91 ∧ rf_sm f1_83 f1_91 ∧ f1_91 = upd f1_83 (244 + 54 * p1.toInt.toNat + 33) (0 : Int32) := hp_92
  have hR_93 := hp_92.1
  have pg_95 := (rf_smof (rf_c6 hR_85 hc) hp_92.2.1 (k := 1) (by decide)).trans pg_87
  have hP : va_P D vwCl ([(rf_MO mo mw ma mf m0 m1 mu mv u0 u1 iz th mb mn mpt mbg mwr mwk mlf men), (rf_RW ct 0 mw 958 f1_91)] ++ ws_90) H := hP
  have hD : va_D A ([(rf_MO mo mw ma mf m0 m1 mu mv u0 u1 iz th mb mn mpt mbg mwr mwk mlf men), (rf_RW ct 0 mw 958 f1_91)] ++ ws_90) := hD
  refine lv_iinc (v := 10) (lv' := [(3, .int 10), (0, .ref mo), (1, .int p1), (2, .int p2)]) hx hb dX11_startsOn_32 hl (k := 0) rfl (by decide) (by decide) rfl (fun ls hl => ?_)
  refine lv_goto (tgt := 16) hx hb dX11_startsOn_35 (by decide) ?_
  refine lv_iload_n hx hb dX11_startsOn_16 rfl (lv_at hl 0 rfl) ?_
  refine lv_bipush (v := 12) hx hb dX11_startsOn_17 (by decide) ?_
  refine lv_icmp_ge (tgt := 38) hx hb dX11_startsOn_19 (by decide) (fun hc => absurd hc (by decide)) (fun _ => ?_)
  refine lv_aload_n hx hb dX11_startsOn_22 rfl (lv_at hl 1 rfl) ?_
  refine lv_iload_n hx hb dX11_startsOn_23 rfl (lv_at hl 2 rfl) ?_
  refine lv_bipush (v := 24) hx hb dX11_startsOn_24 (by decide) ?_
  refine lv_iload_n hx hb dX11_startsOn_26 rfl (lv_at hl 0 rfl) ?_
  refine lv_iadd hx hb dX11_startsOn_27 ?_
  refine cm_cst (y := 34) (by decide) ?_
  refine lv_iconst (v := 0) hx hb dX11_startsOn_28 (by decide) ?_
  refine ty_kv (wr := []) (wc := ([(rf_MO mo mw ma mf m0 m1 mu mv u0 u1 iz th mb mn mpt mbg mwr mwk mlf men), (rf_RW ct 0 mw 958 f1_91)] ++ ws_90)) (va_runV (As := [.int p1, .int 34, .int 0]) (rest := []) ⟨hx, hb, hml, hown, hts⟩ (m_put_34 l D ct S ws_90 ph xx mo mw ma mf m0 m1 mu mv u0 u1 iz mb th mn mpt mbg mwr mwk mlf men f1_91 G p1.toInt p1 (0 : Int32) _ hT h_mu h_mv h_u0 h_u1 hph hy1 hR_93 hc (fun _ => (show 0 ≤ (0 : Int32).toInt from by decide))) (cm_V 3 hts kc_X11_put ki_RX11 kl_RX11_234 kv_X11_put kx_X11_put kd_X11_put ⟨Nat.le_of_ble_eq_true rfl, Nat.le_of_ble_eq_true rfl⟩) (ty_preE (wr := []) (wc := ([(rf_MO mo mw ma mf m0 m1 mu mv u0 u1 iz th mb mn mpt mbg mwr mwk mlf men), (rf_RW ct 0 mw 958 f1_91)] ++ ws_90)) (ci := 11) (q0 := 0) hP hK hD hS hA hX rfl rfl) rfl rfl hl.1 rfl (lv_room (Nat.le_of_ble_eq_true rfl)) dX11_startsOn_29 ⟨Nat.le_of_ble_eq_true rfl, Nat.le_of_ble_eq_true rfl⟩) hP hD hS hA (fun u H locs hw_97 hP hD hS => ?_)
  obtain ⟨ws_98, f1_99⟩ := u
  obtain ⟨hT, hp_100⟩ := hw_97
  have hp_100 : rf_R G p1.toInt f1_99 ∧ rf_sm f1_91 f1_99 ∧ f1_99 = upd f1_91 (244 + 54 * p1.toInt.toNat + 34) (0 : Int32) := hp_100
  have hR_101 := hp_100.1
  have pg_103 := (rf_smof (rf_c6 hR_93 hc) hp_100.2.1 (k := 1) (by decide)).trans pg_95
  have hP : va_P D vwCl ([(rf_MO mo mw ma mf m0 m1 mu mv u0 u1 iz th mb mn mpt mbg mwr mwk mlf men), (rf_RW ct 0 mw 958 f1_99)] ++ ws_98) H := hP
  have hD : va_D A ([(rf_MO mo mw ma mf m0 m1 mu mv u0 u1 iz th mb mn mpt mbg mwr mwk mlf men), (rf_RW ct 0 mw 958 f1_99)] ++ ws_98) := hD
  refine lv_iinc (v := 11) (lv' := [(3, .int 11), (0, .ref mo), (1, .int p1), (2, .int p2)]) hx hb dX11_startsOn_32 hl (k := 0) rfl (by decide) (by decide) rfl (fun ls hl => ?_)
  refine lv_goto (tgt := 16) hx hb dX11_startsOn_35 (by decide) ?_
  refine lv_iload_n hx hb dX11_startsOn_16 rfl (lv_at hl 0 rfl) ?_
  refine lv_bipush (v := 12) hx hb dX11_startsOn_17 (by decide) ?_
  refine lv_icmp_ge (tgt := 38) hx hb dX11_startsOn_19 (by decide) (fun hc => absurd hc (by decide)) (fun _ => ?_)
  refine lv_aload_n hx hb dX11_startsOn_22 rfl (lv_at hl 1 rfl) ?_
  refine lv_iload_n hx hb dX11_startsOn_23 rfl (lv_at hl 2 rfl) ?_
  refine lv_bipush (v := 24) hx hb dX11_startsOn_24 (by decide) ?_
  refine lv_iload_n hx hb dX11_startsOn_26 rfl (lv_at hl 0 rfl) ?_
  refine lv_iadd hx hb dX11_startsOn_27 ?_
  refine cm_cst (y := 35) (by decide) ?_
  refine lv_iconst (v := 0) hx hb dX11_startsOn_28 (by decide) ?_
  refine ty_kv (wr := []) (wc := ([(rf_MO mo mw ma mf m0 m1 mu mv u0 u1 iz th mb mn mpt mbg mwr mwk mlf men), (rf_RW ct 0 mw 958 f1_99)] ++ ws_98)) (va_runV (As := [.int p1, .int 35, .int 0]) (rest := []) ⟨hx, hb, hml, hown, hts⟩ (m_put_35 l D ct S ws_98 ph xx mo mw ma mf m0 m1 mu mv u0 u1 iz mb th mn mpt mbg mwr mwk mlf men f1_99 G p1.toInt p1 (0 : Int32) _ hT h_mu h_mv h_u0 h_u1 hph hy1 hR_101 hc (fun _ => (show 0 ≤ (0 : Int32).toInt from by decide))) (cm_V 3 hts kc_X11_put ki_RX11 kl_RX11_234 kv_X11_put kx_X11_put kd_X11_put ⟨Nat.le_of_ble_eq_true rfl, Nat.le_of_ble_eq_true rfl⟩) (ty_preE (wr := []) (wc := ([(rf_MO mo mw ma mf m0 m1 mu mv u0 u1 iz th mb mn mpt mbg mwr mwk mlf men), (rf_RW ct 0 mw 958 f1_99)] ++ ws_98)) (ci := 11) (q0 := 0) hP hK hD hS hA hX rfl rfl) rfl rfl hl.1 rfl (lv_room (Nat.le_of_ble_eq_true rfl)) dX11_startsOn_29 ⟨Nat.le_of_ble_eq_true rfl, Nat.le_of_ble_eq_true rfl⟩) hP hD hS hA (fun u H locs hw_105 hP hD hS => ?_)
  obtain ⟨ws_106, f1_107⟩ := u
  obtain ⟨hT, hp_108⟩ := hw_105
  have hp_108 : rf_R G p1.toInt f1_107 ∧ rf_sm f1_99 f1_107 ∧ f1_107 = upd f1_99 (244 + 54 * p1.toInt.toNat + 35) (0 : Int32) := hp_108
  have hR_109 := hp_108.1
  have pg_111 := (rf_smof (rf_c6 hR_101 hc) hp_108.2.1 (k := 1) (by decide)).trans pg_103
  have hP : va_P D vwCl ([(rf_MO mo mw ma mf m0 m1 mu mv u0 u1 iz th mb mn mpt mbg mwr mwk mlf men), (rf_RW ct 0 mw 958 f1_107)] ++ ws_106) H := hP
  have hD : va_D A ([(rf_MO mo mw ma mf m0 m1 mu mv u0 u1 iz th mb mn mpt mbg mwr mwk mlf men), (rf_RW ct 0 mw 958 f1_107)] ++ ws_106) := hD
  refine lv_iinc (v := 12) (lv' := [(3, .int 12), (0, .ref mo), (1, .int p1), (2, .int p2)]) hx hb dX11_startsOn_32 hl (k := 0) rfl (by decide) (by decide) rfl (fun ls hl => ?_)
  refine lv_goto (tgt := 16) hx hb dX11_startsOn_35 (by decide) ?_
  refine lv_iload_n hx hb dX11_startsOn_16 rfl (lv_at hl 0 rfl) ?_
  refine lv_bipush (v := 12) hx hb dX11_startsOn_17 (by decide) ?_
  refine lv_icmp_ge (tgt := 38) hx hb dX11_startsOn_19 (by decide) (fun _ => ?_) (fun hc => absurd (by decide) hc)
  refine lv_aload_n hx hb dX11_startsOn_38 rfl (lv_at hl 1 rfl) ?_
  refine lv_iload_n hx hb dX11_startsOn_39 rfl (lv_at hl 2 rfl) ?_
  refine ty_kv (wr := []) (wc := ([(rf_MO mo mw ma mf m0 m1 mu mv u0 u1 iz th mb mn mpt mbg mwr mwk mlf men), (rf_RW ct 0 mw 958 f1_107)] ++ ws_106)) (va_runV (As := [.int p1]) (rest := []) ⟨hx, hb, hml, hown, hts⟩ (m_X11_clears l D ct S ws_106 ph xx mo mw ma mf m0 m1 mu mv u0 u1 iz mb th mn mpt mbg mwr mwk mlf men f1_107 G p1.toInt p1 _ hT h_mu h_mv h_u0 h_u1 hph hy1 hy11 hR_109 hc) (cm_V 1 hts kc_X11_clears ki_RX11 kl_RX11_272 kv_X11_clears kx_X11_clears kd_X11_clears ⟨Nat.le_of_ble_eq_true rfl, Nat.le_of_ble_eq_true rfl⟩) (ty_preE (wr := []) (wc := ([(rf_MO mo mw ma mf m0 m1 mu mv u0 u1 iz th mb mn mpt mbg mwr mwk mlf men), (rf_RW ct 0 mw 958 f1_107)] ++ ws_106)) (ci := 11) (q0 := 0) hP hK hD hS hA hX rfl rfl) rfl rfl hl.1 rfl (lv_room (Nat.le_of_ble_eq_true rfl)) dX11_startsOn_40 ⟨Nat.le_of_ble_eq_true rfl, Nat.le_of_ble_eq_true rfl⟩) hP hD hS hA (fun u H locs hw_113 hP hD hS => ?_)
  obtain ⟨ws_114, f1_115⟩ := u
  obtain ⟨hT, hp_116⟩ := hw_113
  have hp_116 : rf_R G p1.toInt f1_115 ∧ rf_sm f1_107 f1_115 := hp_116
  have hR_117 := hp_116.1
  have pg_119 := (rf_smof (rf_c6 hR_109 hc) hp_116.2 (k := 1) (by decide)).trans pg_111
  have hP : va_P D vwCl ([(rf_MO mo mw ma mf m0 m1 mu mv u0 u1 iz th mb mn mpt mbg mwr mwk mlf men), (rf_RW ct 0 mw 958 f1_115)] ++ ws_114) H := hP
  have hD : va_D A ([(rf_MO mo mw ma mf m0 m1 mu mv u0 u1 iz th mb mn mpt mbg mwr mwk mlf men), (rf_RW ct 0 mw 958 f1_115)] ++ ws_114) := hD
  refine lv_aload_n hx hb dX11_startsOn_43 rfl (lv_at hl 1 rfl) ?_
  refine lv_iload_n hx hb dX11_startsOn_44 rfl (lv_at hl 2 rfl) ?_
  refine lv_iconst (v := 0) hx hb dX11_startsOn_45 (by decide) ?_
  refine lv_iload_n hx hb dX11_startsOn_46 rfl (lv_at hl 3 rfl) ?_
  refine ty_kv (wr := []) (wc := ([(rf_MO mo mw ma mf m0 m1 mu mv u0 u1 iz th mb mn mpt mbg mwr mwk mlf men), (rf_RW ct 0 mw 958 f1_115)] ++ ws_114)) (va_runV (As := [.int p1, .int 0, .int p2]) (rest := []) ⟨hx, hb, hml, hown, hts⟩ (m_X11_notes l D ct S ws_114 ph xx mo mw ma mf m0 m1 mu mv u0 u1 iz mb th mn mpt mbg mwr mwk mlf men f1_115 G p1.toInt p1 (0 : Int32) p2 _ hT h_mu h_mv h_u0 h_u1 hph hy1 hR_117) (cm_V 3 hts kc_X11_notes ki_RX11 kl_RX11_282 kv_X11_notes kx_X11_notes kd_X11_notes ⟨Nat.le_of_ble_eq_true rfl, Nat.le_of_ble_eq_true rfl⟩) (ty_preE (wr := []) (wc := ([(rf_MO mo mw ma mf m0 m1 mu mv u0 u1 iz th mb mn mpt mbg mwr mwk mlf men), (rf_RW ct 0 mw 958 f1_115)] ++ ws_114)) (ci := 11) (q0 := 0) hP hK hD hS hA hX rfl rfl) rfl rfl hl.1 rfl (lv_room (Nat.le_of_ble_eq_true rfl)) dX11_startsOn_47 ⟨Nat.le_of_ble_eq_true rfl, Nat.le_of_ble_eq_true rfl⟩) hP hD hS hA (fun u H locs hw_121 hP hD hS => ?_)
  obtain ⟨ws_122, f1_123⟩ := u
  obtain ⟨hT, hp_124⟩ := hw_121
  have hp_124 : rf_R G p1.toInt f1_123 ∧ rf_sm f1_115 f1_123 := hp_124
  have hR_125 := hp_124.1
  have pg_127 := (rf_smof (rf_c6 hR_117 hc) hp_124.2 (k := 1) (by decide)).trans pg_119
  have hP : va_P D vwCl ([(rf_MO mo mw ma mf m0 m1 mu mv u0 u1 iz th mb mn mpt mbg mwr mwk mlf men), (rf_RW ct 0 mw 958 f1_123)] ++ ws_122) H := hP
  have hD : va_D A ([(rf_MO mo mw ma mf m0 m1 mu mv u0 u1 iz th mb mn mpt mbg mwr mwk mlf men), (rf_RW ct 0 mw 958 f1_123)] ++ ws_122) := hD
  refine lv_aload_n hx hb dX11_startsOn_50 rfl (lv_at hl 1 rfl) ?_
  refine lv_iload_n hx hb dX11_startsOn_51 rfl (lv_at hl 2 rfl) ?_
  refine lv_iconst (v := 0) hx hb dX11_startsOn_52 (by decide) ?_
  refine ty_kv (wr := []) (wc := ([(rf_MO mo mw ma mf m0 m1 mu mv u0 u1 iz th mb mn mpt mbg mwr mwk mlf men), (rf_RW ct 0 mw 958 f1_123)] ++ ws_122)) (va_runV (As := [.int p1, .int 0]) (rest := []) ⟨hx, hb, hml, hown, hts⟩ (m_comes_0 l D ct S ws_122 ph xx mo mw ma mf m0 m1 mu mv u0 u1 iz mb th mn mpt mbg mwr mwk mlf men f1_123 G p1.toInt p1 _ hT h_mu h_mv h_u0 h_u1 hph hy1 hy11 hR_125 hc (Or.inr rfl) (by rw [pg_127]; exact hpr)) (cm_V 2 hts kc_X11_comes ki_RX11 kl_RX11_291 kv_X11_comes kx_X11_comes kd_X11_comes ⟨Nat.le_of_ble_eq_true rfl, Nat.le_of_ble_eq_true rfl⟩) (ty_preE (wr := []) (wc := ([(rf_MO mo mw ma mf m0 m1 mu mv u0 u1 iz th mb mn mpt mbg mwr mwk mlf men), (rf_RW ct 0 mw 958 f1_123)] ++ ws_122)) (ci := 11) (q0 := 0) hP hK hD hS hA hX rfl rfl) rfl rfl hl.1 rfl (lv_room (Nat.le_of_ble_eq_true rfl)) dX11_startsOn_53 ⟨Nat.le_of_ble_eq_true rfl, Nat.le_of_ble_eq_true rfl⟩) hP hD hS hA (fun u H locs hw_129 hP hD hS => ?_)
  obtain ⟨ws_130, f1_131⟩ := u
  obtain ⟨hT, hp_132⟩ := hw_129
  have hp_132 : rf_R G (-1) f1_131 := hp_132
  have hR_133 := hp_132
  have hP : va_P D vwCl ([(rf_MO mo mw ma mf m0 m1 mu mv u0 u1 iz th mb mn mpt mbg mwr mwk mlf men), (rf_RW ct 0 mw 958 f1_131)] ++ ws_130) H := hP
  have hD : va_D A ([(rf_MO mo mw ma mf m0 m1 mu mv u0 u1 iz th mb mn mpt mbg mwr mwk mlf men), (rf_RW ct 0 mw 958 f1_131)] ++ ws_130) := hD
  exact W.vret hx hb hr (fun t ht hW => ⟨⟨(ws_130, f1_131), rfl, ⟨hT, hR_133⟩, by rw [ht]; exact hP, by rw [hAe]; exact hD⟩, hS.F ht⟩) hS.2.2 dX11_startsOn_56
theorem dX11_comesToEnd_0 : decode cX11_comesToEnd 0 = .ok (.aload_n 0, 1) := by decide +kernel
theorem dX11_comesToEnd_1 : decode cX11_comesToEnd 1 = .ok (.iload_n 1, 1) := by decide +kernel
theorem dX11_comesToEnd_2 : decode cX11_comesToEnd 2 = .ok (.iconst 0, 1) := by decide +kernel
theorem dX11_comesToEnd_3 : decode cX11_comesToEnd 3 = .ok (.iconst 3, 1) := by decide +kernel
theorem dX11_comesToEnd_4 : decode cX11_comesToEnd 4 = .ok (.invokevirtual 234, 3) := by decide +kernel
theorem dX11_comesToEnd_7 : decode cX11_comesToEnd 7 = .ok (.aload_n 0, 1) := by decide +kernel
theorem dX11_comesToEnd_8 : decode cX11_comesToEnd 8 = .ok (.iload_n 1, 1) := by decide +kernel
theorem dX11_comesToEnd_9 : decode cX11_comesToEnd 9 = .ok (.iconst 2, 1) := by decide +kernel
theorem dX11_comesToEnd_10 : decode cX11_comesToEnd 10 = .ok (.iconst 0, 1) := by decide +kernel
theorem dX11_comesToEnd_11 : decode cX11_comesToEnd 11 = .ok (.invokevirtual 282, 3) := by decide +kernel
theorem dX11_comesToEnd_14 : decode cX11_comesToEnd 14 = .ok (.aload_n 0, 1) := by decide +kernel
theorem dX11_comesToEnd_15 : decode cX11_comesToEnd 15 = .ok (.iload_n 1, 1) := by decide +kernel
theorem dX11_comesToEnd_16 : decode cX11_comesToEnd 16 = .ok (.bipush 39, 2) := by decide +kernel
theorem dX11_comesToEnd_18 : decode cX11_comesToEnd 18 = .ok (.invokevirtual 209, 3) := by decide +kernel
theorem dX11_comesToEnd_21 : decode cX11_comesToEnd 21 = .ok (.ifCond .le 13, 3) := by decide +kernel
theorem dX11_comesToEnd_24 : decode cX11_comesToEnd 24 = .ok (.aload_n 0, 1) := by decide +kernel
theorem dX11_comesToEnd_25 : decode cX11_comesToEnd 25 = .ok (.iload_n 1, 1) := by decide +kernel
theorem dX11_comesToEnd_26 : decode cX11_comesToEnd 26 = .ok (.aload_n 0, 1) := by decide +kernel
theorem dX11_comesToEnd_27 : decode cX11_comesToEnd 27 = .ok (.iload_n 1, 1) := by decide +kernel
theorem dX11_comesToEnd_28 : decode cX11_comesToEnd 28 = .ok (.invokevirtual 285, 3) := by decide +kernel
theorem dX11_comesToEnd_31 : decode cX11_comesToEnd 31 = .ok (.invokevirtual 288, 3) := by decide +kernel
theorem dX11_comesToEnd_34 : decode cX11_comesToEnd 34 = .ok (.return_, 1) := by decide +kernel
set_option maxRecDepth 100000 in
set_option maxHeartbeats 4000000 in
theorem m_X11_comesToEnd (l : Launch) (D : va_G) (ct : Nat → ClassId) (S : ty_S) (ws : va_W) (ph : va_W → Prop) (xx : Nat → Nat → Nat → Prop) (mo : Nat) (mw : Nat) (ma : Nat) (mf : Nat) (m0 : Nat) (m1 : Nat) (mu : Nat) (mv : Nat) (u0 : Nat) (u1 : Nat) (iz : Nat) (mb : Nat) (th : Int32) (mn : Int32) (mpt : Int32) (mbg : Int32) (mwr : Int32) (mwk : Int32) (mlf : Int32) (men : Int32) (f : Nat → Int32) (G : Nat → Int32) (cx : Int) (p1 : Int32) (sz : Nat) (hT : ty_V ct S ph ws) (h_mu : S mu = some (.inr (1, 42))) (h_mv : S mv = some (.inr (1, 42))) (h_u0 : S u0 = some (.inr (1, 42))) (h_u1 : S u1 = some (.inr (1, 42))) (hph : ty_C ph xx) (hy1 : ty_y1 xx) (hy11 : ty_y0 xx 11) (hR : rf_R G cx f) (hc : 0 ≤ p1.toInt ∧ p1.toInt < (G 9).toInt) (hcx : cx = -1 ∨ cx = p1.toInt) : Met l yX11_comesToEnd (ws_ yX11_comesToEnd cX11_comesToEnd 2 none) ({ frames := 3, cells := 0, slots := 0, locals := 72 } : Room) (va_Pc [.ref mo, .int p1] (cmP D ct sz ([(rf_MO mo mw ma mf m0 m1 mu mv u0 u1 iz th mb mn mpt mbg mwr mwk mlf men), (rf_RW ct 0 mw 958 f)] ++ ws))) (va_Qv (fun (u : va_W × (Nat → Int32)) => match u with | (u9, f1) => ty_V ct S ph u9 ∧ rf_R G (-1) f1) (cmB D ([(rf_MO mo mw ma mf m0 m1 mu mv u0 u1 iz th mb mn mpt mbg mwr mwk mlf men), (rf_RW ct 0 mw 958 f)] ++ ws) sz (fun (u : va_W × (Nat → Int32)) => match u with | (u9, f1) => ([(rf_MO mo mw ma mf m0 m1 mu mv u0 u1 iz th mb mn mpt mbg mwr mwk mlf men), (rf_RW ct 0 mw 958 f1)] ++ u9))) (va_A ([(rf_MO mo mw ma mf m0 m1 mu mv u0 u1 iz th mb mn mpt mbg mwr mwk mlf men), (rf_RW ct 0 mw 958 f)] ++ ws) sz)) 0 0 (va_A ([(rf_MO mo mw ma mf m0 m1 mu mv u0 u1 iz th mb mn mpt mbg mwr mwk mlf men), (rf_RW ct 0 mw 958 f)] ++ ws) sz) := by
  refine Met.ofW (cc := cX11_comesToEnd) (maxL := 2) (ret := none) (by decide) rfl ?_
  intro p e s m args below meth c s₁ B hml hv
  obtain ⟨rfl, hsz, hP, hK, hD0, hX⟩ := hv
  have hx := B.exec
  have hb := B.bytes
  have hr := B.returns
  have hts := ws_all (atoms_spec (ws := ws_ yX11_comesToEnd cX11_comesToEnd 2 none) B.pre)
  have hown : s.vm.findClass RX11 = some m.cls := findClass_of_methodNamed B.named
  have hlocks := B.notSynchronized
  subst hsz
  have hD := hD0.self (sz := s.heap.size)
  generalize hAe : va_A ([(rf_MO mo mw ma mf m0 m1 mu mv u0 u1 iz th mb mn mpt mbg mwr mwk mlf men), (rf_RW ct 0 mw 958 f)] ++ ws) s.heap.size = A at hD hX ⊢
  have hA : ∀ q : Nat, s.heap.size ≤ q → A q := fun q h => by rw [← hAe]; exact Or.inr h
  have hS : va_S A s.heap s.heap [] := va_S.rf
  have hl := lv_entry ([.ref mo, .int p1]) (n := 2) (Nat.le_of_ble_eq_true rfl)
  rw [lg_entry_eq]
  generalize (lg_sl ([.ref mo, .int p1]) ++ List.replicate (2 - (lg_sl ([.ref mo, .int p1])).length) Slot.unset).toArray = ls at hl ⊢
  have hl : lv_has ls 2 [(0, .ref mo), (1, .int p1)] := hl
  refine lv_aload_n hx hb dX11_comesToEnd_0 rfl (lv_at hl 0 rfl) ?_
  refine lv_iload_n hx hb dX11_comesToEnd_1 rfl (lv_at hl 1 rfl) ?_
  refine lv_iconst (v := 0) hx hb dX11_comesToEnd_2 (by decide) ?_
  refine lv_iconst (v := 3) hx hb dX11_comesToEnd_3 (by decide) ?_
  refine ty_kv (wr := []) (wc := ([(rf_MO mo mw ma mf m0 m1 mu mv u0 u1 iz th mb mn mpt mbg mwr mwk mlf men), (rf_RW ct 0 mw 958 f)] ++ ws)) (va_runV (As := [.int p1, .int 0, .int 3]) (rest := []) ⟨hx, hb, hml, hown, hts⟩ (m_put_0 l D ct S ws ph xx mo mw ma mf m0 m1 mu mv u0 u1 iz mb th mn mpt mbg mwr mwk mlf men f G cx p1 (3 : Int32) _ hT h_mu h_mv h_u0 h_u1 hph hy1 hR hc hcx) (cm_V 3 hts kc_X11_put ki_RX11 kl_RX11_234 kv_X11_put kx_X11_put kd_X11_put ⟨Nat.le_of_ble_eq_true rfl, Nat.le_of_ble_eq_true rfl⟩) (ty_preE (wr := []) (wc := ([(rf_MO mo mw ma mf m0 m1 mu mv u0 u1 iz th mb mn mpt mbg mwr mwk mlf men), (rf_RW ct 0 mw 958 f)] ++ ws)) (ci := 11) (q0 := 0) hP hK hD hS hA hX rfl rfl) rfl rfl hl.1 rfl (lv_room (Nat.le_of_ble_eq_true rfl)) dX11_comesToEnd_4 ⟨Nat.le_of_ble_eq_true rfl, Nat.le_of_ble_eq_true rfl⟩) hP hD hS hA (fun u H locs hw_2 hP hD hS => ?_)
  obtain ⟨ws_3, f1_4⟩ := u
  obtain ⟨hT, hp_5⟩ := hw_2
  have hp_5 : rf_R G p1.toInt f1_4 ∧ f1_4 = upd f (244 + 54 * p1.toInt.toNat + 0) (3 : Int32) := hp_5
  have hR_6 := hp_5.1
  have hP : va_P D vwCl ([(rf_MO mo mw ma mf m0 m1 mu mv u0 u1 iz th mb mn mpt mbg mwr mwk mlf men), (rf_RW ct 0 mw 958 f1_4)] ++ ws_3) H := hP
  have hD : va_D A ([(rf_MO mo mw ma mf m0 m1 mu mv u0 u1 iz th mb mn mpt mbg mwr mwk mlf men), (rf_RW ct 0 mw 958 f1_4)] ++ ws_3) := hD
  have pg_8 : rf_of f1_4 p1 0 = 3 := by rw [hp_5.2]; exact rf_eq
  refine lv_aload_n hx hb dX11_comesToEnd_7 rfl (lv_at hl 0 rfl) ?_
  refine lv_iload_n hx hb dX11_comesToEnd_8 rfl (lv_at hl 1 rfl) ?_
  refine lv_iconst (v := 2) hx hb dX11_comesToEnd_9 (by decide) ?_
  refine lv_iconst (v := 0) hx hb dX11_comesToEnd_10 (by decide) ?_
  refine ty_kv (wr := []) (wc := ([(rf_MO mo mw ma mf m0 m1 mu mv u0 u1 iz th mb mn mpt mbg mwr mwk mlf men), (rf_RW ct 0 mw 958 f1_4)] ++ ws_3)) (va_runV (As := [.int p1, .int 2, .int 0]) (rest := []) ⟨hx, hb, hml, hown, hts⟩ (m_X11_notes l D ct S ws_3 ph xx mo mw ma mf m0 m1 mu mv u0 u1 iz mb th mn mpt mbg mwr mwk mlf men f1_4 G p1.toInt p1 (2 : Int32) (0 : Int32) _ hT h_mu h_mv h_u0 h_u1 hph hy1 hR_6) (cm_V 3 hts kc_X11_notes ki_RX11 kl_RX11_282 kv_X11_notes kx_X11_notes kd_X11_notes ⟨Nat.le_of_ble_eq_true rfl, Nat.le_of_ble_eq_true rfl⟩) (ty_preE (wr := []) (wc := ([(rf_MO mo mw ma mf m0 m1 mu mv u0 u1 iz th mb mn mpt mbg mwr mwk mlf men), (rf_RW ct 0 mw 958 f1_4)] ++ ws_3)) (ci := 11) (q0 := 0) hP hK hD hS hA hX rfl rfl) rfl rfl hl.1 rfl (lv_room (Nat.le_of_ble_eq_true rfl)) dX11_comesToEnd_11 ⟨Nat.le_of_ble_eq_true rfl, Nat.le_of_ble_eq_true rfl⟩) hP hD hS hA (fun u H locs hw_10 hP hD hS => ?_)
  obtain ⟨ws_11, f1_12⟩ := u
  obtain ⟨hT, hp_13⟩ := hw_10
  have hp_13 : rf_R G p1.toInt f1_12 ∧ rf_sm f1_4 f1_12 := hp_13
  have hR_14 := hp_13.1
  have pg_16 := (rf_smof (rf_c6 hR_6 hc) hp_13.2 (k := 0) (by decide)).trans pg_8
  have hP : va_P D vwCl ([(rf_MO mo mw ma mf m0 m1 mu mv u0 u1 iz th mb mn mpt mbg mwr mwk mlf men), (rf_RW ct 0 mw 958 f1_12)] ++ ws_11) H := hP
  have hD : va_D A ([(rf_MO mo mw ma mf m0 m1 mu mv u0 u1 iz th mb mn mpt mbg mwr mwk mlf men), (rf_RW ct 0 mw 958 f1_12)] ++ ws_11) := hD
  refine lv_aload_n hx hb dX11_comesToEnd_14 rfl (lv_at hl 0 rfl) ?_
  refine lv_iload_n hx hb dX11_comesToEnd_15 rfl (lv_at hl 1 rfl) ?_
  refine lv_bipush (v := 39) hx hb dX11_comesToEnd_16 (by decide) ?_
  refine ty_ki (wr := []) (wc := ([(rf_MO mo mw ma mf m0 m1 mu mv u0 u1 iz th mb mn mpt mbg mwr mwk mlf men), (rf_RW ct 0 mw 958 f1_12)] ++ ws_11)) (va_runV (As := [.int p1, .int 39]) (rest := []) ⟨hx, hb, hml, hown, hts⟩ (m_of_39 l D ct S ws_11 ph xx mo mw ma mf m0 m1 mu mv u0 u1 iz mb th mn mpt mbg mwr mwk mlf men f1_12 G p1.toInt p1 _ hT h_mu h_mv h_u0 h_u1 hph hy1 hR_14 hc) (cm_V 2 hts kc_X11_of ki_RX11 kl_RX11_209 kv_X11_of kx_X11_of kd_X11_of ⟨Nat.le_of_ble_eq_true rfl, Nat.le_of_ble_eq_true rfl⟩) (ty_preE (wr := []) (wc := ([(rf_MO mo mw ma mf m0 m1 mu mv u0 u1 iz th mb mn mpt mbg mwr mwk mlf men), (rf_RW ct 0 mw 958 f1_12)] ++ ws_11)) (ci := 11) (q0 := 0) hP hK hD hS hA hX rfl rfl) rfl rfl hl.1 rfl (lv_room (Nat.le_of_ble_eq_true rfl)) dX11_comesToEnd_18 ⟨Nat.le_of_ble_eq_true rfl, Nat.le_of_ble_eq_true rfl⟩) hP hD hS hA (fun r_17 u H locs hw_18 hP hD hS => ?_)
  obtain ⟨ws_19, rfl⟩ : ∃ z, z = u := ⟨_, rfl⟩
  obtain ⟨hT, rfl⟩ := hw_18
  have hP : va_P D vwCl ([(rf_MO mo mw ma mf m0 m1 mu mv u0 u1 iz th mb mn mpt mbg mwr mwk mlf men), (rf_RW ct 0 mw 958 f1_12)] ++ ws_19) H := hP
  have hD : va_D A ([(rf_MO mo mw ma mf m0 m1 mu mv u0 u1 iz th mb mn mpt mbg mwr mwk mlf men), (rf_RW ct 0 mw 958 f1_12)] ++ ws_19) := hD
  refine lv_if_le (tgt := 34) hx hb dX11_comesToEnd_21 (by decide) (fun hc_20 => ?_) (fun hc_20 => ?_)
  · have hR_21 := rf_back9 hc.1 hR_14 (Or.inr rfl) (rf_runno (by rw [pg_16]; decide) (by rw [pg_16]; decide))
    exact W.vret hx hb hr (fun t ht hW => ⟨⟨(ws_19, f1_12), rfl, ⟨hT, hR_21⟩, by rw [ht]; exact hP, by rw [hAe]; exact hD⟩, hS.F ht⟩) hS.2.2 dX11_comesToEnd_34
  · refine lv_aload_n hx hb dX11_comesToEnd_24 rfl (lv_at hl 0 rfl) ?_
    refine lv_iload_n hx hb dX11_comesToEnd_25 rfl (lv_at hl 1 rfl) ?_
    refine lv_aload_n hx hb dX11_comesToEnd_26 rfl (lv_at hl 0 rfl) ?_
    refine lv_iload_n hx hb dX11_comesToEnd_27 rfl (lv_at hl 1 rfl) ?_
    refine ty_ki (wr := []) (wc := ([(rf_MO mo mw ma mf m0 m1 mu mv u0 u1 iz th mb mn mpt mbg mwr mwk mlf men), (rf_RW ct 0 mw 958 f1_12)] ++ ws_19)) (va_runV (As := [.int p1]) (rest := [.int p1, .ref mo]) ⟨hx, hb, hml, hown, hts⟩ (m_X11_leavesQueue l D ct S ws_19 ph xx mo mw ma mf m0 m1 mu mv u0 u1 iz mb th mn mpt mbg mwr mwk mlf men f1_12 G p1.toInt p1 _ hT h_mu h_mv h_u0 h_u1 hph hy1 hR_14 hc (rf_pos hc_20)) (cm_V 1 hts kc_X11_leavesQueue ki_RX11 kl_RX11_285 kv_X11_leavesQueue kx_X11_leavesQueue kd_X11_leavesQueue ⟨Nat.le_of_ble_eq_true rfl, Nat.le_of_ble_eq_true rfl⟩) (ty_preE (wr := []) (wc := ([(rf_MO mo mw ma mf m0 m1 mu mv u0 u1 iz th mb mn mpt mbg mwr mwk mlf men), (rf_RW ct 0 mw 958 f1_12)] ++ ws_19)) (ci := 11) (q0 := 0) hP hK hD hS hA hX rfl rfl) rfl rfl hl.1 rfl (lv_room (Nat.le_of_ble_eq_true rfl)) dX11_comesToEnd_28 ⟨Nat.le_of_ble_eq_true rfl, Nat.le_of_ble_eq_true rfl⟩) hP hD hS hA (fun r_22 u H locs hw_23 hP hD hS => ?_)
    obtain ⟨ws_24, f1_25⟩ := u
    obtain ⟨hT, hp_26⟩ := hw_23
    have hp_26 : rf_R G p1.toInt f1_25 ∧ rf_sm f1_12 f1_25 ∧ 0 ≤ r_22.toInt ∧ r_22.toInt < (G 10).toInt := hp_26
    have hR_27 := hp_26.1
    have pg_29 := (rf_smof (rf_c6 hR_14 hc) hp_26.2.1 (k := 0) (by decide)).trans pg_16
    have hP : va_P D vwCl ([(rf_MO mo mw ma mf m0 m1 mu mv u0 u1 iz th mb mn mpt mbg mwr mwk mlf men), (rf_RW ct 0 mw 958 f1_25)] ++ ws_24) H := hP
    have hD : va_D A ([(rf_MO mo mw ma mf m0 m1 mu mv u0 u1 iz th mb mn mpt mbg mwr mwk mlf men), (rf_RW ct 0 mw 958 f1_25)] ++ ws_24) := hD
    refine ty_kv (wr := []) (wc := ([(rf_MO mo mw ma mf m0 m1 mu mv u0 u1 iz th mb mn mpt mbg mwr mwk mlf men), (rf_RW ct 0 mw 958 f1_25)] ++ ws_24)) (va_runV (As := [.int p1, .int r_22]) (rest := []) ⟨hx, hb, hml, hown, hts⟩ (m_X11_startsOn l D ct S ws_24 ph xx mo mw ma mf m0 m1 mu mv u0 u1 iz mb th mn mpt mbg mwr mwk mlf men f1_25 G p1.toInt p1 r_22 _ hT h_mu h_mv h_u0 h_u1 hph hy1 hy11 hR_27 hc (Or.inr rfl) hp_26.2.2) (cm_V 2 hts kc_X11_startsOn ki_RX11 kl_RX11_288 kv_X11_startsOn kx_X11_startsOn kd_X11_startsOn ⟨Nat.le_of_ble_eq_true rfl, Nat.le_of_ble_eq_true rfl⟩) (ty_preE (wr := []) (wc := ([(rf_MO mo mw ma mf m0 m1 mu mv u0 u1 iz th mb mn mpt mbg mwr mwk mlf men), (rf_RW ct 0 mw 958 f1_25)] ++ ws_24)) (ci := 11) (q0 := 0) hP hK hD hS hA hX rfl rfl) rfl rfl hl.1 rfl (lv_room (Nat.le_of_ble_eq_true rfl)) dX11_comesToEnd_31 ⟨Nat.le_of_ble_eq_true rfl, Nat.le_of_ble_eq_true rfl⟩) hP hD hS hA (fun u H locs hw_31 hP hD hS => ?_)
    obtain ⟨ws_32, f1_33⟩ := u
    obtain ⟨hT, hp_34⟩ := hw_31
    have hp_34 : rf_R G (-1) f1_33 := hp_34
    have hR_35 := hp_34
    have hP : va_P D vwCl ([(rf_MO mo mw ma mf m0 m1 mu mv u0 u1 iz th mb mn mpt mbg mwr mwk mlf men), (rf_RW ct 0 mw 958 f1_33)] ++ ws_32) H := hP
    have hD : va_D A ([(rf_MO mo mw ma mf m0 m1 mu mv u0 u1 iz th mb mn mpt mbg mwr mwk mlf men), (rf_RW ct 0 mw 958 f1_33)] ++ ws_32) := hD
    exact W.vret hx hb hr (fun t ht hW => ⟨⟨(ws_32, f1_33), rfl, ⟨hT, hR_35⟩, by rw [ht]; exact hP, by rw [hAe]; exact hD⟩, hS.F ht⟩) hS.2.2 dX11_comesToEnd_34
theorem dX11_comes_32 : decode cX11_comes 32 = .ok (.aload_n 0, 1) := by decide +kernel
theorem dX11_comes_33 : decode cX11_comes 33 = .ok (.iload_n 1, 1) := by decide +kernel
theorem dX11_comes_34 : decode cX11_comes 34 = .ok (.bipush 24, 2) := by decide +kernel
theorem dX11_comes_36 : decode cX11_comes 36 = .ok (.iload 4, 2) := by decide +kernel
theorem dX11_comes_38 : decode cX11_comes 38 = .ok (.iadd, 1) := by decide +kernel
theorem dX11_comes_39 : decode cX11_comes 39 = .ok (.invokevirtual 209, 3) := by decide +kernel
theorem dX11_comes_42 : decode cX11_comes 42 = .ok (.aload_n 0, 1) := by decide +kernel
theorem dX11_comes_43 : decode cX11_comes 43 = .ok (.iload_n 3, 1) := by decide +kernel
theorem dX11_comes_44 : decode cX11_comes 44 = .ok (.iload 4, 2) := by decide +kernel
theorem dX11_comes_46 : decode cX11_comes 46 = .ok (.iconst 2, 1) := by decide +kernel
theorem dX11_comes_47 : decode cX11_comes 47 = .ok (.invokevirtual 218, 3) := by decide +kernel
theorem dX11_comes_50 : decode cX11_comes 50 = .ok (.if_icmp .ge 38, 3) := by decide +kernel
theorem dX11_comes_53 : decode cX11_comes 53 = .ok (.aload_n 0, 1) := by decide +kernel
theorem dX11_comes_54 : decode cX11_comes 54 = .ok (.iload_n 1, 1) := by decide +kernel
theorem dX11_comes_55 : decode cX11_comes 55 = .ok (.bipush 24, 2) := by decide +kernel
theorem dX11_comes_57 : decode cX11_comes 57 = .ok (.iload 4, 2) := by decide +kernel
theorem dX11_comes_59 : decode cX11_comes 59 = .ok (.iadd, 1) := by decide +kernel
theorem dX11_comes_60 : decode cX11_comes 60 = .ok (.aload_n 0, 1) := by decide +kernel
theorem dX11_comes_61 : decode cX11_comes 61 = .ok (.iload_n 1, 1) := by decide +kernel
theorem dX11_comes_62 : decode cX11_comes 62 = .ok (.bipush 24, 2) := by decide +kernel
theorem dX11_comes_64 : decode cX11_comes 64 = .ok (.iload 4, 2) := by decide +kernel
theorem dX11_comes_66 : decode cX11_comes 66 = .ok (.iadd, 1) := by decide +kernel
theorem dX11_comes_67 : decode cX11_comes 67 = .ok (.invokevirtual 209, 3) := by decide +kernel
theorem dX11_comes_70 : decode cX11_comes 70 = .ok (.iconst 1, 1) := by decide +kernel
theorem dX11_comes_71 : decode cX11_comes 71 = .ok (.iadd, 1) := by decide +kernel
theorem dX11_comes_72 : decode cX11_comes 72 = .ok (.invokevirtual 234, 3) := by decide +kernel
theorem dX11_comes_75 : decode cX11_comes 75 = .ok (.aload_n 0, 1) := by decide +kernel
theorem dX11_comes_76 : decode cX11_comes 76 = .ok (.iload_n 3, 1) := by decide +kernel
theorem dX11_comes_77 : decode cX11_comes 77 = .ok (.iload 4, 2) := by decide +kernel
theorem dX11_comes_79 : decode cX11_comes 79 = .ok (.iconst 1, 1) := by decide +kernel
theorem dX11_comes_80 : decode cX11_comes 80 = .ok (.invokevirtual 218, 3) := by decide +kernel
theorem dX11_comes_83 : decode cX11_comes 83 = .ok (.istore 4, 2) := by decide +kernel
theorem dX11_comes_85 : decode cX11_comes 85 = .ok (.goto (-75), 3) := by decide +kernel
theorem dX11_comes_88 : decode cX11_comes 88 = .ok (.aload_n 0, 1) := by decide +kernel
theorem dX11_comes_89 : decode cX11_comes 89 = .ok (.iload_n 1, 1) := by decide +kernel
theorem dX11_comes_90 : decode cX11_comes 90 = .ok (.bipush 24, 2) := by decide +kernel
theorem dX11_comes_92 : decode cX11_comes 92 = .ok (.iload 4, 2) := by decide +kernel
theorem dX11_comes_94 : decode cX11_comes 94 = .ok (.iadd, 1) := by decide +kernel
theorem dX11_comes_95 : decode cX11_comes 95 = .ok (.iconst 0, 1) := by decide +kernel
theorem dX11_comes_96 : decode cX11_comes 96 = .ok (.invokevirtual 234, 3) := by decide +kernel
theorem dX11_comes_99 : decode cX11_comes 99 = .ok (.iinc 4 1, 3) := by decide +kernel
theorem dX11_comes_102 : decode cX11_comes 102 = .ok (.goto (-92), 3) := by decide +kernel
theorem dX11_comes_115 : decode cX11_comes 115 = .ok (.iconst 1, 1) := by decide +kernel
theorem dX11_comes_116 : decode cX11_comes 116 = .ok (.goto 4, 3) := by decide +kernel
theorem dX11_comes_130 : decode cX11_comes 130 = .ok (.iconst (-1), 1) := by decide +kernel
theorem dX11_comes_131 : decode cX11_comes 131 = .ok (.goto 5, 3) := by decide +kernel
theorem dX11_comes_164 : decode cX11_comes 164 = .ok (.aload_n 0, 1) := by decide +kernel
theorem dX11_comes_165 : decode cX11_comes 165 = .ok (.iload_n 1, 1) := by decide +kernel
theorem dX11_comes_166 : decode cX11_comes 166 = .ok (.invokevirtual 279, 3) := by decide +kernel
set_option maxRecDepth 100000 in
set_option maxHeartbeats 4000000 in
theorem m_comes (l : Launch) (D : va_G) (ct : Nat → ClassId) (S : ty_S) (ws : va_W) (ph : va_W → Prop) (xx : Nat → Nat → Nat → Prop) (mo : Nat) (mw : Nat) (ma : Nat) (mf : Nat) (m0 : Nat) (m1 : Nat) (mu : Nat) (mv : Nat) (u0 : Nat) (u1 : Nat) (iz : Nat) (mb : Nat) (th : Int32) (mn : Int32) (mpt : Int32) (mbg : Int32) (mwr : Int32) (mwk : Int32) (mlf : Int32) (men : Int32) (f : Nat → Int32) (G : Nat → Int32) (cx : Int) (p1 : Int32) (p2 : Int32) (sz : Nat) (hT : ty_V ct S ph ws) (h_mu : S mu = some (.inr (1, 42))) (h_mv : S mv = some (.inr (1, 42))) (h_u0 : S u0 = some (.inr (1, 42))) (h_u1 : S u1 = some (.inr (1, 42))) (hph : ty_C ph xx) (hy1 : ty_y1 xx) (hy11 : ty_y0 xx 11) (hR : rf_R G cx f) (hc : 0 ≤ p1.toInt ∧ p1.toInt < (G 9).toInt) (hcx : cx = -1 ∨ cx = p1.toInt) (hp : 0 ≤ (rf_of f p1 1).toInt ∧ (rf_of f p1 1).toInt < (G 10).toInt) (hf9 : 0 ≤ p2.toInt ∧ p2.toInt ≤ (G (96 + 37 * (rf_of f p1 1).toInt.toNat)).toInt) : Met l yX11_comes (ws_ yX11_comes cX11_comes 6 none) ({ frames := 4, cells := 0, slots := 0, locals := 93 } : Room) (va_Pc [.ref mo, .int p1, .int p2] (cmP D ct sz ([(rf_MO mo mw ma mf m0 m1 mu mv u0 u1 iz th mb mn mpt mbg mwr mwk mlf men), (rf_RW ct 0 mw 958 f)] ++ ws))) (va_Qv (fun (u : va_W × (Nat → Int32)) => match u with | (u9, f1) => ty_V ct S ph u9 ∧ rf_R G (-1) f1) (cmB D ([(rf_MO mo mw ma mf m0 m1 mu mv u0 u1 iz th mb mn mpt mbg mwr mwk mlf men), (rf_RW ct 0 mw 958 f)] ++ ws) sz (fun (u : va_W × (Nat → Int32)) => match u with | (u9, f1) => ([(rf_MO mo mw ma mf m0 m1 mu mv u0 u1 iz th mb mn mpt mbg mwr mwk mlf men), (rf_RW ct 0 mw 958 f1)] ++ u9))) (va_A ([(rf_MO mo mw ma mf m0 m1 mu mv u0 u1 iz th mb mn mpt mbg mwr mwk mlf men), (rf_RW ct 0 mw 958 f)] ++ ws) sz)) 0 0 (va_A ([(rf_MO mo mw ma mf m0 m1 mu mv u0 u1 iz th mb mn mpt mbg mwr mwk mlf men), (rf_RW ct 0 mw 958 f)] ++ ws) sz) := by
  refine Met.ofW (cc := cX11_comes) (maxL := 6) (ret := none) (by decide) rfl ?_
  intro p e s m args below meth c s₁ B hml hv
  obtain ⟨rfl, hsz, hP, hK, hD0, hX⟩ := hv
  have hx := B.exec
  have hb := B.bytes
  have hr := B.returns
  have hts := ws_all (atoms_spec (ws := ws_ yX11_comes cX11_comes 6 none) B.pre)
  have hown : s.vm.findClass RX11 = some m.cls := findClass_of_methodNamed B.named
  have hlocks := B.notSynchronized
  subst hsz
  have hD := hD0.self (sz := s.heap.size)
  generalize hAe : va_A ([(rf_MO mo mw ma mf m0 m1 mu mv u0 u1 iz th mb mn mpt mbg mwr mwk mlf men), (rf_RW ct 0 mw 958 f)] ++ ws) s.heap.size = A at hD hX ⊢
  have hA : ∀ q : Nat, s.heap.size ≤ q → A q := fun q h => by rw [← hAe]; exact Or.inr h
  have hS : va_S A s.heap s.heap [] := va_S.rf
  have hl := lv_entry ([.ref mo, .int p1, .int p2]) (n := 6) (Nat.le_of_ble_eq_true rfl)
  rw [lg_entry_eq]
  generalize (lg_sl ([.ref mo, .int p1, .int p2]) ++ List.replicate (6 - (lg_sl ([.ref mo, .int p1, .int p2])).length) Slot.unset).toArray = ls at hl ⊢
  have hl : lv_has ls 6 [(0, .ref mo), (1, .int p1), (2, .int p2)] := hl
  refine lv_aload_n hx hb dX11_comes_0 rfl (lv_at hl 0 rfl) ?_
  refine lv_iload_n hx hb dX11_comes_1 rfl (lv_at hl 1 rfl) ?_
  refine lv_iconst (v := 1) hx hb dX11_comes_2 (by decide) ?_
  refine ty_ki (wr := []) (wc := ([(rf_MO mo mw ma mf m0 m1 mu mv u0 u1 iz th mb mn mpt mbg mwr mwk mlf men), (rf_RW ct 0 mw 958 f)] ++ ws)) (va_runV (As := [.int p1, .int 1]) (rest := []) ⟨hx, hb, hml, hown, hts⟩ (m_of_1 l D ct S ws ph xx mo mw ma mf m0 m1 mu mv u0 u1 iz mb th mn mpt mbg mwr mwk mlf men f G cx p1 _ hT h_mu h_mv h_u0 h_u1 hph hy1 hR hc) (cm_V 2 hts kc_X11_of ki_RX11 kl_RX11_209 kv_X11_of kx_X11_of kd_X11_of ⟨Nat.le_of_ble_eq_true rfl, Nat.le_of_ble_eq_true rfl⟩) (ty_preE (wr := []) (wc := ([(rf_MO mo mw ma mf m0 m1 mu mv u0 u1 iz th mb mn mpt mbg mwr mwk mlf men), (rf_RW ct 0 mw 958 f)] ++ ws)) (ci := 11) (q0 := 0) hP hK hD hS hA hX rfl rfl) rfl rfl hl.1 rfl (lv_room (Nat.le_of_ble_eq_true rfl)) dX11_comes_3 ⟨Nat.le_of_ble_eq_true rfl, Nat.le_of_ble_eq_true rfl⟩) hP hD hS hA (fun r_1 u H locs hw_2 hP hD hS => ?_)
  obtain ⟨ws_3, rfl⟩ : ∃ z, z = u := ⟨_, rfl⟩
  obtain ⟨hT, rfl⟩ := hw_2
  have hP : va_P D vwCl ([(rf_MO mo mw ma mf m0 m1 mu mv u0 u1 iz th mb mn mpt mbg mwr mwk mlf men), (rf_RW ct 0 mw 958 f)] ++ ws_3) H := hP
  have hD : va_D A ([(rf_MO mo mw ma mf m0 m1 mu mv u0 u1 iz th mb mn mpt mbg mwr mwk mlf men), (rf_RW ct 0 mw 958 f)] ++ ws_3) := hD
  refine lv_istore_n (lv' := [(3, .int (rf_of f p1 1)), (0, .ref mo), (1, .int p1), (2, .int p2)]) hx hb dX11_comes_6 rfl hl (by decide) rfl (fun ls hl => ?_)
  have hpn : ((((rf_of f p1 1).toInt.toNat : Nat)) : Int) < (G 10).toInt := by omega
  refine lv_iload_n hx hb dX11_comes_7 rfl (lv_at hl 3 rfl) ?_
  refine lv_istore (lv' := [(4, .int p2), (3, .int (rf_of f p1 1)), (0, .ref mo), (1, .int p1), (2, .int p2)]) hx hb dX11_comes_8 hl (by decide) rfl (fun ls hl => ?_)
  refine ty_loop (I := fun μ H locs ls => ∃ (ws : va_W) (y_4 : Int32) (f_5 : Nat → Int32), μ = rf_M G (rf_of f p1 1).toInt.toNat p1.toInt.toNat f_5 y_4 ∧ ty_V ct S ph ws ∧ va_P D vwCl ([(rf_MO mo mw ma mf m0 m1 mu mv u0 u1 iz th mb mn mpt mbg mwr mwk mlf men), (rf_RW ct 0 mw 958 f_5)] ++ ws) H ∧ va_D A ([(rf_MO mo mw ma mf m0 m1 mu mv u0 u1 iz th mb mn mpt mbg mwr mwk mlf men), (rf_RW ct 0 mw 958 f_5)] ++ ws) ∧ va_S A s.heap H locs ∧ lv_has ls 6 [(0, .ref mo), (1, .int p1), (2, .int p2), (3, .int (rf_of f p1 1)), (4, .int y_4)] ∧ rf_R G cx f_5 ∧ rf_sm f f_5 ∧ 0 ≤ y_4.toInt ∧ y_4.toInt ≤ (G (96 + 37 * (rf_of f p1 1).toInt.toNat)).toInt) ⟨_, ws_3, p2, f, rfl, hT, hP, hD, hS, (lv_sub hl [2, 3, 4, 1, 0] rfl), hR, (rf_smr f), hf9⟩ (fun μ H locs ls hI ih_10 => ?_)
  obtain ⟨ws, y_4, f_5, rfl, hT, hP, hD, hS, hl, hR_10, hM_10, hex_10⟩ := hI
  refine lv_iload hx hb dX11_comes_10 (lv_at hl 4 rfl) ?_
  refine lv_aload_n hx hb dX11_comes_12 rfl (lv_at hl 0 rfl) ?_
  refine lv_iload_n hx hb dX11_comes_13 rfl (lv_at hl 3 rfl) ?_
  refine ty_ki (wr := []) (wc := ([(rf_MO mo mw ma mf m0 m1 mu mv u0 u1 iz th mb mn mpt mbg mwr mwk mlf men), (rf_RW ct 0 mw 958 f_5)] ++ ws)) (va_runV (As := [.int (rf_of f p1 1)]) (rest := [.int y_4]) ⟨hx, hb, hml, hown, hts⟩ (m_X11_stepsOf l D ct S ws ph xx mo mw ma mf m0 m1 mu mv u0 u1 iz mb th mn mpt mbg mwr mwk mlf men f_5 G cx (rf_of f p1 1) _ hT h_mu h_mv h_u0 h_u1 hph hy1 hR_10 (rf_p4 hR_10 hp)) (cm_V 1 hts kc_X11_stepsOf ki_RX11 kl_RX11_276 kv_X11_stepsOf kx_X11_stepsOf kd_X11_stepsOf ⟨Nat.le_of_ble_eq_true rfl, Nat.le_of_ble_eq_true rfl⟩) (ty_preE (wr := []) (wc := ([(rf_MO mo mw ma mf m0 m1 mu mv u0 u1 iz th mb mn mpt mbg mwr mwk mlf men), (rf_RW ct 0 mw 958 f_5)] ++ ws)) (ci := 11) (q0 := 0) hP hK hD hS hA hX rfl rfl) rfl rfl hl.1 rfl (lv_room (Nat.le_of_ble_eq_true rfl)) dX11_comes_14 ⟨Nat.le_of_ble_eq_true rfl, Nat.le_of_ble_eq_true rfl⟩) hP hD hS hA (fun r_6 u H locs hw_7 hP hD hS => ?_)
  obtain ⟨ws_8, rfl⟩ : ∃ z, z = u := ⟨_, rfl⟩
  obtain ⟨hT, rfl⟩ := hw_7
  have hP : va_P D vwCl ([(rf_MO mo mw ma mf m0 m1 mu mv u0 u1 iz th mb mn mpt mbg mwr mwk mlf men), (rf_RW ct 0 mw 958 f_5)] ++ ws_8) H := hP
  have hD : va_D A ([(rf_MO mo mw ma mf m0 m1 mu mv u0 u1 iz th mb mn mpt mbg mwr mwk mlf men), (rf_RW ct 0 mw 958 f_5)] ++ ws_8) := hD
  refine lv_icmp_ge (tgt := 105) hx hb dX11_comes_17 (by decide) (fun hc_9 => ?_) (fun hc_9 => ?_)
  · refine lv_iload hx hb dX11_comes_105 (lv_at hl 4 rfl) ?_
    refine lv_aload_n hx hb dX11_comes_107 rfl (lv_at hl 0 rfl) ?_
    refine lv_iload_n hx hb dX11_comes_108 rfl (lv_at hl 3 rfl) ?_
    refine ty_ki (wr := []) (wc := ([(rf_MO mo mw ma mf m0 m1 mu mv u0 u1 iz th mb mn mpt mbg mwr mwk mlf men), (rf_RW ct 0 mw 958 f_5)] ++ ws_8)) (va_runV (As := [.int (rf_of f p1 1)]) (rest := [.int y_4]) ⟨hx, hb, hml, hown, hts⟩ (m_X11_stepsOf l D ct S ws_8 ph xx mo mw ma mf m0 m1 mu mv u0 u1 iz mb th mn mpt mbg mwr mwk mlf men f_5 G cx (rf_of f p1 1) _ hT h_mu h_mv h_u0 h_u1 hph hy1 hR_10 (rf_p4 hR_10 hp)) (cm_V 1 hts kc_X11_stepsOf ki_RX11 kl_RX11_276 kv_X11_stepsOf kx_X11_stepsOf kd_X11_stepsOf ⟨Nat.le_of_ble_eq_true rfl, Nat.le_of_ble_eq_true rfl⟩) (ty_preE (wr := []) (wc := ([(rf_MO mo mw ma mf m0 m1 mu mv u0 u1 iz th mb mn mpt mbg mwr mwk mlf men), (rf_RW ct 0 mw 958 f_5)] ++ ws_8)) (ci := 11) (q0 := 0) hP hK hD hS hA hX rfl rfl) rfl rfl hl.1 rfl (lv_room (Nat.le_of_ble_eq_true rfl)) dX11_comes_109 ⟨Nat.le_of_ble_eq_true rfl, Nat.le_of_ble_eq_true rfl⟩) hP hD hS hA (fun r_10 u H locs hw_11 hP hD hS => ?_)
    obtain ⟨ws_12, rfl⟩ : ∃ z, z = u := ⟨_, rfl⟩
    obtain ⟨hT, rfl⟩ := hw_11
    have hP : va_P D vwCl ([(rf_MO mo mw ma mf m0 m1 mu mv u0 u1 iz th mb mn mpt mbg mwr mwk mlf men), (rf_RW ct 0 mw 958 f_5)] ++ ws_12) H := hP
    have hD : va_D A ([(rf_MO mo mw ma mf m0 m1 mu mv u0 u1 iz th mb mn mpt mbg mwr mwk mlf men), (rf_RW ct 0 mw 958 f_5)] ++ ws_12) := hD
    refine lv_icmp_ne (tgt := 119) hx hb dX11_comes_112 (by decide) (fun hc_13 => ?_) (fun hc_13 => ?_)
    · refine lv_iconst (v := 0) hx hb dX11_comes_119 (by decide) ?_
      refine lv_istore (lv' := [(5, .int 0), (0, .ref mo), (1, .int p1), (2, .int p2), (3, .int (rf_of f p1 1)), (4, .int y_4)]) hx hb dX11_comes_120 hl (by decide) rfl (fun ls hl => ?_)
      refine lv_aload_n hx hb dX11_comes_122 rfl (lv_at hl 1 rfl) ?_
      refine lv_iload_n hx hb dX11_comes_123 rfl (lv_at hl 2 rfl) ?_
      refine lv_iconst (v := 2) hx hb dX11_comes_124 (by decide) ?_
      refine lv_iload hx hb dX11_comes_125 (lv_at hl 0 rfl) ?_
      refine lv_if_eq (tgt := 134) hx hb dX11_comes_127 (by decide) (fun _ => ?_) (fun hc => absurd (by decide) hc)
      refine lv_iload hx hb dX11_comes_134 (lv_at hl 5 rfl) ?_
      refine ty_kv (wr := []) (wc := ([(rf_MO mo mw ma mf m0 m1 mu mv u0 u1 iz th mb mn mpt mbg mwr mwk mlf men), (rf_RW ct 0 mw 958 f_5)] ++ ws_12)) (va_runV (As := [.int p1, .int 2, .int y_4]) (rest := []) ⟨hx, hb, hml, hown, hts⟩ (m_put_2 l D ct S ws_12 ph xx mo mw ma mf m0 m1 mu mv u0 u1 iz mb th mn mpt mbg mwr mwk mlf men f_5 G cx p1 y_4 _ hT h_mu h_mv h_u0 h_u1 hph hy1 hR_10 hc hcx (rf_step2 hex_10.1 (by have := rf_nes hc_13 (by rw [(rf_ps hR_10 hpn).2.1]; exact hex_10.2); have := (rf_ps hR_10 hpn).1.2; have e9 := congrArg Int32.toInt (rf_ps hR_10 hpn).2.1; omega))) (cm_V 3 hts kc_X11_put ki_RX11 kl_RX11_234 kv_X11_put kx_X11_put kd_X11_put ⟨Nat.le_of_ble_eq_true rfl, Nat.le_of_ble_eq_true rfl⟩) (ty_preE (wr := []) (wc := ([(rf_MO mo mw ma mf m0 m1 mu mv u0 u1 iz th mb mn mpt mbg mwr mwk mlf men), (rf_RW ct 0 mw 958 f_5)] ++ ws_12)) (ci := 11) (q0 := 0) hP hK hD hS hA hX rfl rfl) rfl rfl hl.1 rfl (lv_room (Nat.le_of_ble_eq_true rfl)) dX11_comes_136 ⟨Nat.le_of_ble_eq_true rfl, Nat.le_of_ble_eq_true rfl⟩) hP hD hS hA (fun u H locs hw_15 hP hD hS => ?_)
      obtain ⟨ws_16, f1_17⟩ := u
      obtain ⟨hT, hp_18⟩ := hw_15
      have hp_18 : rf_R G p1.toInt f1_17 ∧ f1_17 = upd f_5 (244 + 54 * p1.toInt.toNat + 2) y_4 := hp_18
      have hR_19 := hp_18.1
      have hP : va_P D vwCl ([(rf_MO mo mw ma mf m0 m1 mu mv u0 u1 iz th mb mn mpt mbg mwr mwk mlf men), (rf_RW ct 0 mw 958 f1_17)] ++ ws_16) H := hP
      have hD : va_D A ([(rf_MO mo mw ma mf m0 m1 mu mv u0 u1 iz th mb mn mpt mbg mwr mwk mlf men), (rf_RW ct 0 mw 958 f1_17)] ++ ws_16) := hD
      refine lv_aload_n hx hb dX11_comes_139 rfl (lv_at hl 1 rfl) ?_
      refine lv_iload_n hx hb dX11_comes_140 rfl (lv_at hl 2 rfl) ?_
      refine lv_iconst (v := 3) hx hb dX11_comes_141 (by decide) ?_
      refine lv_iconst (v := 0) hx hb dX11_comes_142 (by decide) ?_
      refine ty_kv (wr := []) (wc := ([(rf_MO mo mw ma mf m0 m1 mu mv u0 u1 iz th mb mn mpt mbg mwr mwk mlf men), (rf_RW ct 0 mw 958 f1_17)] ++ ws_16)) (va_runV (As := [.int p1, .int 3, .int 0]) (rest := []) ⟨hx, hb, hml, hown, hts⟩ (m_put_3 l D ct S ws_16 ph xx mo mw ma mf m0 m1 mu mv u0 u1 iz mb th mn mpt mbg mwr mwk mlf men f1_17 G p1.toInt p1 (0 : Int32) _ hT h_mu h_mv h_u0 h_u1 hph hy1 hR_19 hc) (cm_V 3 hts kc_X11_put ki_RX11 kl_RX11_234 kv_X11_put kx_X11_put kd_X11_put ⟨Nat.le_of_ble_eq_true rfl, Nat.le_of_ble_eq_true rfl⟩) (ty_preE (wr := []) (wc := ([(rf_MO mo mw ma mf m0 m1 mu mv u0 u1 iz th mb mn mpt mbg mwr mwk mlf men), (rf_RW ct 0 mw 958 f1_17)] ++ ws_16)) (ci := 11) (q0 := 0) hP hK hD hS hA hX rfl rfl) rfl rfl hl.1 rfl (lv_room (Nat.le_of_ble_eq_true rfl)) dX11_comes_143 ⟨Nat.le_of_ble_eq_true rfl, Nat.le_of_ble_eq_true rfl⟩) hP hD hS hA (fun u H locs hw_22 hP hD hS => ?_)
      obtain ⟨ws_23, f1_24⟩ := u
      obtain ⟨hT, hp_25⟩ := hw_22
      have hp_25 : rf_R G p1.toInt f1_24 ∧ rf_sm f1_17 f1_24 ∧ f1_24 = upd f1_17 (244 + 54 * p1.toInt.toNat + 3) (0 : Int32) := hp_25
      have hR_26 := hp_25.1
      have hP : va_P D vwCl ([(rf_MO mo mw ma mf m0 m1 mu mv u0 u1 iz th mb mn mpt mbg mwr mwk mlf men), (rf_RW ct 0 mw 958 f1_24)] ++ ws_23) H := hP
      have hD : va_D A ([(rf_MO mo mw ma mf m0 m1 mu mv u0 u1 iz th mb mn mpt mbg mwr mwk mlf men), (rf_RW ct 0 mw 958 f1_24)] ++ ws_23) := hD
      refine lv_aload_n hx hb dX11_comes_146 rfl (lv_at hl 1 rfl) ?_
      refine lv_iload_n hx hb dX11_comes_147 rfl (lv_at hl 2 rfl) ?_
      refine lv_bipush (v := 6) hx hb dX11_comes_148 (by decide) ?_
      refine lv_aload_n hx hb dX11_comes_150 rfl (lv_at hl 1 rfl) ?_
      refine lv_iload_n hx hb dX11_comes_151 rfl (lv_at hl 2 rfl) ?_
      refine lv_iconst (v := 1) hx hb dX11_comes_152 (by decide) ?_
      have hP : va_P D vwCl ([(rf_RW ct 0 mw 958 f1_24), (rf_MO mo mw ma mf m0 m1 mu mv u0 u1 iz th mb mn mpt mbg mwr mwk mlf men)] ++ ws_23) H := ty_permP hP (ty_ordp (E := [(rf_MO mo mw ma mf m0 m1 mu mv u0 u1 iz th mb mn mpt mbg mwr mwk mlf men), (rf_RW ct 0 mw 958 f1_24)]) (E2 := [(rf_RW ct 0 mw 958 f1_24), (rf_MO mo mw ma mf m0 m1 mu mv u0 u1 iz th mb mn mpt mbg mwr mwk mlf men)]) (n := 2) [1, 0] rfl rfl (by decide))
      have hD : va_D A ([(rf_RW ct 0 mw 958 f1_24), (rf_MO mo mw ma mf m0 m1 mu mv u0 u1 iz th mb mn mpt mbg mwr mwk mlf men)] ++ ws_23) := ty_permD hD (ty_ordp (E := [(rf_MO mo mw ma mf m0 m1 mu mv u0 u1 iz th mb mn mpt mbg mwr mwk mlf men), (rf_RW ct 0 mw 958 f1_24)]) (E2 := [(rf_RW ct 0 mw 958 f1_24), (rf_MO mo mw ma mf m0 m1 mu mv u0 u1 iz th mb mn mpt mbg mwr mwk mlf men)]) (n := 2) [1, 0] rfl rfl (by decide))
      refine ty_kl (wr := [(rf_RW ct 0 mw 958 f1_24)]) (wc := ([(rf_MO mo mw ma mf m0 m1 mu mv u0 u1 iz th mb mn mpt mbg mwr mwk mlf men)] ++ ws_23)) (va_runV (As := [.int p1, .int 1]) (rest := [.int 6, .int p1, .ref mo]) ⟨hx, hb, hml, hown, hts⟩ (m_X11_sum l D ct S ws_23 ph xx mo mw ma mf m0 m1 mu mv u0 u1 iz mb th mn mpt mbg mwr mwk mlf men p1 (1 : Int32) _ hT h_mu h_mv h_u0 h_u1 hph hy1 (rf_c6 hR_26 hc) (by decide)) (cm_V 2 hts kc_X11_sum ki_RX11 kl_RX11_261 kv_X11_sum kx_X11_sum kd_X11_sum ⟨Nat.le_of_ble_eq_true rfl, Nat.le_of_ble_eq_true rfl⟩) (ty_preE (wr := [(rf_RW ct 0 mw 958 f1_24)]) (wc := ([(rf_MO mo mw ma mf m0 m1 mu mv u0 u1 iz th mb mn mpt mbg mwr mwk mlf men)] ++ ws_23)) (ci := 11) (q0 := 1) hP hK hD hS hA hX rfl rfl) rfl rfl hl.1 rfl (lv_room (Nat.le_of_ble_eq_true rfl)) dX11_comes_153 ⟨Nat.le_of_ble_eq_true rfl, Nat.le_of_ble_eq_true rfl⟩) hP hD hS hA (fun r_28 u H locs hw_29 hP hD hS => ?_)
      obtain ⟨ws_30, rfl⟩ : ∃ z, z = u := ⟨_, rfl⟩
      have hT := hw_29
      have hP : va_P D vwCl ([(rf_RW ct 0 mw 958 f1_24), (rf_MO mo mw ma mf m0 m1 mu mv u0 u1 iz th mb mn mpt mbg mwr mwk mlf men)] ++ ws_30) H := hP
      have hD : va_D A ([(rf_RW ct 0 mw 958 f1_24), (rf_MO mo mw ma mf m0 m1 mu mv u0 u1 iz th mb mn mpt mbg mwr mwk mlf men)] ++ ws_30) := hD
      refine ty_kv (wr := [(rf_RW ct 0 mw 958 f1_24)]) (wc := ([(rf_MO mo mw ma mf m0 m1 mu mv u0 u1 iz th mb mn mpt mbg mwr mwk mlf men)] ++ ws_30)) (va_runV (As := [.int p1, .int 6, .long r_28]) (rest := []) ⟨hx, hb, hml, hown, hts⟩ (m_X11_putSum l D ct S ws_30 ph xx mo mw ma mf m0 m1 mu mv u0 u1 iz mb th mn mpt mbg mwr mwk mlf men p1 (6 : Int32) r_28 _ hT h_mu h_mv h_u0 h_u1 hph hy1 hy11 (rf_c6 hR_26 hc) (by decide)) (cm_V 3 hts kc_X11_putSum ki_RX11 kl_RX11_265 kv_X11_putSum kx_X11_putSum kd_X11_putSum ⟨Nat.le_of_ble_eq_true rfl, Nat.le_of_ble_eq_true rfl⟩) (ty_preE (wr := [(rf_RW ct 0 mw 958 f1_24)]) (wc := ([(rf_MO mo mw ma mf m0 m1 mu mv u0 u1 iz th mb mn mpt mbg mwr mwk mlf men)] ++ ws_30)) (ci := 11) (q0 := 1) hP hK hD hS hA hX rfl rfl) rfl rfl hl.1 rfl (lv_room (Nat.le_of_ble_eq_true rfl)) dX11_comes_156 ⟨Nat.le_of_ble_eq_true rfl, Nat.le_of_ble_eq_true rfl⟩) hP hD hS hA (fun u H locs hw_32 hP hD hS => ?_)
      obtain ⟨ws_33, rfl⟩ : ∃ z, z = u := ⟨_, rfl⟩
      have hT := hw_32
      have hP : va_P D vwCl ([(rf_RW ct 0 mw 958 f1_24), (rf_MO mo mw ma mf m0 m1 mu mv u0 u1 iz th mb mn mpt mbg mwr mwk mlf men)] ++ ws_33) H := hP
      have hD : va_D A ([(rf_RW ct 0 mw 958 f1_24), (rf_MO mo mw ma mf m0 m1 mu mv u0 u1 iz th mb mn mpt mbg mwr mwk mlf men)] ++ ws_33) := hD
      refine lv_iload hx hb dX11_comes_159 (lv_at hl 0 rfl) ?_
      refine lv_if_eq (tgt := 169) hx hb dX11_comes_161 (by decide) (fun _ => ?_) (fun hc => absurd (by decide) hc)
      have e1 : rf_of f1_24 p1 1 = rf_of f_5 p1 1 := by rw [hp_25.2.2, rf_ne (by decide), hp_18.2]; exact rf_ne (by decide)
      have e2 : rf_of f1_24 p1 2 = y_4 := by rw [hp_25.2.2, rf_ne (by decide), hp_18.2]; exact rf_eq
      have e0 : rf_of f_5 p1 1 = rf_of f p1 1 := rf_smof (rf_c6 hR hc) hM_10 (by decide)
      have hRf := rf_back9 hc.1 hR_26 (Or.inr rfl) (rf_runok hc.1 (by unfold rf_on; rw [e1, e2, e0]; exact ⟨hp, hex_10.1, by rw [← (rf_ps hR_10 hpn).2.1]; exact rf_nes hc_13 (by rw [(rf_ps hR_10 hpn).2.1]; exact hex_10.2)⟩))
      have hP : va_P D vwCl ([(rf_MO mo mw ma mf m0 m1 mu mv u0 u1 iz th mb mn mpt mbg mwr mwk mlf men), (rf_RW ct 0 mw 958 f1_24)] ++ ws_33) H := ty_permP hP (ty_ordp (E := [(rf_RW ct 0 mw 958 f1_24), (rf_MO mo mw ma mf m0 m1 mu mv u0 u1 iz th mb mn mpt mbg mwr mwk mlf men)]) (E2 := [(rf_MO mo mw ma mf m0 m1 mu mv u0 u1 iz th mb mn mpt mbg mwr mwk mlf men), (rf_RW ct 0 mw 958 f1_24)]) (n := 2) [1, 0] rfl rfl (by decide))
      have hD : va_D A ([(rf_MO mo mw ma mf m0 m1 mu mv u0 u1 iz th mb mn mpt mbg mwr mwk mlf men), (rf_RW ct 0 mw 958 f1_24)] ++ ws_33) := ty_permD hD (ty_ordp (E := [(rf_RW ct 0 mw 958 f1_24), (rf_MO mo mw ma mf m0 m1 mu mv u0 u1 iz th mb mn mpt mbg mwr mwk mlf men)]) (E2 := [(rf_MO mo mw ma mf m0 m1 mu mv u0 u1 iz th mb mn mpt mbg mwr mwk mlf men), (rf_RW ct 0 mw 958 f1_24)]) (n := 2) [1, 0] rfl rfl (by decide))
      exact W.vret hx hb hr (fun t ht hW => ⟨⟨(ws_33, f1_24), rfl, ⟨hT, hRf⟩, by rw [ht]; exact hP, by rw [hAe]; exact hD⟩, hS.F ht⟩) hS.2.2 dX11_comes_169
    · refine lv_iconst (v := 1) hx hb dX11_comes_115 (by decide) ?_
      refine lv_goto (tgt := 120) hx hb dX11_comes_116 (by decide) ?_
      refine lv_istore (lv' := [(5, .int 1), (0, .ref mo), (1, .int p1), (2, .int p2), (3, .int (rf_of f p1 1)), (4, .int y_4)]) hx hb dX11_comes_120 hl (by decide) rfl (fun ls hl => ?_)
      refine lv_aload_n hx hb dX11_comes_122 rfl (lv_at hl 1 rfl) ?_
      refine lv_iload_n hx hb dX11_comes_123 rfl (lv_at hl 2 rfl) ?_
      refine lv_iconst (v := 2) hx hb dX11_comes_124 (by decide) ?_
      refine lv_iload hx hb dX11_comes_125 (lv_at hl 0 rfl) ?_
      refine lv_if_eq (tgt := 134) hx hb dX11_comes_127 (by decide) (fun hc => absurd hc (by decide)) (fun _ => ?_)
      refine lv_iconst (v := (-1)) hx hb dX11_comes_130 (by decide) ?_
      refine lv_goto (tgt := 136) hx hb dX11_comes_131 (by decide) ?_
      refine ty_kv (wr := []) (wc := ([(rf_MO mo mw ma mf m0 m1 mu mv u0 u1 iz th mb mn mpt mbg mwr mwk mlf men), (rf_RW ct 0 mw 958 f_5)] ++ ws_12)) (va_runV (As := [.int p1, .int 2, .int (-1)]) (rest := []) ⟨hx, hb, hml, hown, hts⟩ (m_put_2 l D ct S ws_12 ph xx mo mw ma mf m0 m1 mu mv u0 u1 iz mb th mn mpt mbg mwr mwk mlf men f_5 G cx p1 ((-1) : Int32) _ hT h_mu h_mv h_u0 h_u1 hph hy1 hR_10 hc hcx (fun _ => (show -1 ≤ (-1 : Int32).toInt ∧ (-1 : Int32).toInt ≤ 11 from by decide))) (cm_V 3 hts kc_X11_put ki_RX11 kl_RX11_234 kv_X11_put kx_X11_put kd_X11_put ⟨Nat.le_of_ble_eq_true rfl, Nat.le_of_ble_eq_true rfl⟩) (ty_preE (wr := []) (wc := ([(rf_MO mo mw ma mf m0 m1 mu mv u0 u1 iz th mb mn mpt mbg mwr mwk mlf men), (rf_RW ct 0 mw 958 f_5)] ++ ws_12)) (ci := 11) (q0 := 0) hP hK hD hS hA hX rfl rfl) rfl rfl hl.1 rfl (lv_room (Nat.le_of_ble_eq_true rfl)) dX11_comes_136 ⟨Nat.le_of_ble_eq_true rfl, Nat.le_of_ble_eq_true rfl⟩) hP hD hS hA (fun u H locs hw_35 hP hD hS => ?_)
      obtain ⟨ws_36, f1_37⟩ := u
      obtain ⟨hT, hp_38⟩ := hw_35
      have hp_38 : rf_R G p1.toInt f1_37 ∧ f1_37 = upd f_5 (244 + 54 * p1.toInt.toNat + 2) ((-1) : Int32) := hp_38
      have hR_39 := hp_38.1
      have hP : va_P D vwCl ([(rf_MO mo mw ma mf m0 m1 mu mv u0 u1 iz th mb mn mpt mbg mwr mwk mlf men), (rf_RW ct 0 mw 958 f1_37)] ++ ws_36) H := hP
      have hD : va_D A ([(rf_MO mo mw ma mf m0 m1 mu mv u0 u1 iz th mb mn mpt mbg mwr mwk mlf men), (rf_RW ct 0 mw 958 f1_37)] ++ ws_36) := hD
      refine lv_aload_n hx hb dX11_comes_139 rfl (lv_at hl 1 rfl) ?_
      refine lv_iload_n hx hb dX11_comes_140 rfl (lv_at hl 2 rfl) ?_
      refine lv_iconst (v := 3) hx hb dX11_comes_141 (by decide) ?_
      refine lv_iconst (v := 0) hx hb dX11_comes_142 (by decide) ?_
      refine ty_kv (wr := []) (wc := ([(rf_MO mo mw ma mf m0 m1 mu mv u0 u1 iz th mb mn mpt mbg mwr mwk mlf men), (rf_RW ct 0 mw 958 f1_37)] ++ ws_36)) (va_runV (As := [.int p1, .int 3, .int 0]) (rest := []) ⟨hx, hb, hml, hown, hts⟩ (m_put_3 l D ct S ws_36 ph xx mo mw ma mf m0 m1 mu mv u0 u1 iz mb th mn mpt mbg mwr mwk mlf men f1_37 G p1.toInt p1 (0 : Int32) _ hT h_mu h_mv h_u0 h_u1 hph hy1 hR_39 hc) (cm_V 3 hts kc_X11_put ki_RX11 kl_RX11_234 kv_X11_put kx_X11_put kd_X11_put ⟨Nat.le_of_ble_eq_true rfl, Nat.le_of_ble_eq_true rfl⟩) (ty_preE (wr := []) (wc := ([(rf_MO mo mw ma mf m0 m1 mu mv u0 u1 iz th mb mn mpt mbg mwr mwk mlf men), (rf_RW ct 0 mw 958 f1_37)] ++ ws_36)) (ci := 11) (q0 := 0) hP hK hD hS hA hX rfl rfl) rfl rfl hl.1 rfl (lv_room (Nat.le_of_ble_eq_true rfl)) dX11_comes_143 ⟨Nat.le_of_ble_eq_true rfl, Nat.le_of_ble_eq_true rfl⟩) hP hD hS hA (fun u H locs hw_42 hP hD hS => ?_)
      obtain ⟨ws_43, f1_44⟩ := u
      obtain ⟨hT, hp_45⟩ := hw_42
      have hp_45 : rf_R G p1.toInt f1_44 ∧ rf_sm f1_37 f1_44 ∧ f1_44 = upd f1_37 (244 + 54 * p1.toInt.toNat + 3) (0 : Int32) := hp_45
      have hR_46 := hp_45.1
      have hP : va_P D vwCl ([(rf_MO mo mw ma mf m0 m1 mu mv u0 u1 iz th mb mn mpt mbg mwr mwk mlf men), (rf_RW ct 0 mw 958 f1_44)] ++ ws_43) H := hP
      have hD : va_D A ([(rf_MO mo mw ma mf m0 m1 mu mv u0 u1 iz th mb mn mpt mbg mwr mwk mlf men), (rf_RW ct 0 mw 958 f1_44)] ++ ws_43) := hD
      refine lv_aload_n hx hb dX11_comes_146 rfl (lv_at hl 1 rfl) ?_
      refine lv_iload_n hx hb dX11_comes_147 rfl (lv_at hl 2 rfl) ?_
      refine lv_bipush (v := 6) hx hb dX11_comes_148 (by decide) ?_
      refine lv_aload_n hx hb dX11_comes_150 rfl (lv_at hl 1 rfl) ?_
      refine lv_iload_n hx hb dX11_comes_151 rfl (lv_at hl 2 rfl) ?_
      refine lv_iconst (v := 1) hx hb dX11_comes_152 (by decide) ?_
      have hP : va_P D vwCl ([(rf_RW ct 0 mw 958 f1_44), (rf_MO mo mw ma mf m0 m1 mu mv u0 u1 iz th mb mn mpt mbg mwr mwk mlf men)] ++ ws_43) H := ty_permP hP (ty_ordp (E := [(rf_MO mo mw ma mf m0 m1 mu mv u0 u1 iz th mb mn mpt mbg mwr mwk mlf men), (rf_RW ct 0 mw 958 f1_44)]) (E2 := [(rf_RW ct 0 mw 958 f1_44), (rf_MO mo mw ma mf m0 m1 mu mv u0 u1 iz th mb mn mpt mbg mwr mwk mlf men)]) (n := 2) [1, 0] rfl rfl (by decide))
      have hD : va_D A ([(rf_RW ct 0 mw 958 f1_44), (rf_MO mo mw ma mf m0 m1 mu mv u0 u1 iz th mb mn mpt mbg mwr mwk mlf men)] ++ ws_43) := ty_permD hD (ty_ordp (E := [(rf_MO mo mw ma mf m0 m1 mu mv u0 u1 iz th mb mn mpt mbg mwr mwk mlf men), (rf_RW ct 0 mw 958 f1_44)]) (E2 := [(rf_RW ct 0 mw 958 f1_44), (rf_MO mo mw ma mf m0 m1 mu mv u0 u1 iz th mb mn mpt mbg mwr mwk mlf men)]) (n := 2) [1, 0] rfl rfl (by decide))
      refine ty_kl (wr := [(rf_RW ct 0 mw 958 f1_44)]) (wc := ([(rf_MO mo mw ma mf m0 m1 mu mv u0 u1 iz th mb mn mpt mbg mwr mwk mlf men)] ++ ws_43)) (va_runV (As := [.int p1, .int 1]) (rest := [.int 6, .int p1, .ref mo]) ⟨hx, hb, hml, hown, hts⟩ (m_X11_sum l D ct S ws_43 ph xx mo mw ma mf m0 m1 mu mv u0 u1 iz mb th mn mpt mbg mwr mwk mlf men p1 (1 : Int32) _ hT h_mu h_mv h_u0 h_u1 hph hy1 (rf_c6 hR_46 hc) (by decide)) (cm_V 2 hts kc_X11_sum ki_RX11 kl_RX11_261 kv_X11_sum kx_X11_sum kd_X11_sum ⟨Nat.le_of_ble_eq_true rfl, Nat.le_of_ble_eq_true rfl⟩) (ty_preE (wr := [(rf_RW ct 0 mw 958 f1_44)]) (wc := ([(rf_MO mo mw ma mf m0 m1 mu mv u0 u1 iz th mb mn mpt mbg mwr mwk mlf men)] ++ ws_43)) (ci := 11) (q0 := 1) hP hK hD hS hA hX rfl rfl) rfl rfl hl.1 rfl (lv_room (Nat.le_of_ble_eq_true rfl)) dX11_comes_153 ⟨Nat.le_of_ble_eq_true rfl, Nat.le_of_ble_eq_true rfl⟩) hP hD hS hA (fun r_48 u H locs hw_49 hP hD hS => ?_)
      obtain ⟨ws_50, rfl⟩ : ∃ z, z = u := ⟨_, rfl⟩
      have hT := hw_49
      have hP : va_P D vwCl ([(rf_RW ct 0 mw 958 f1_44), (rf_MO mo mw ma mf m0 m1 mu mv u0 u1 iz th mb mn mpt mbg mwr mwk mlf men)] ++ ws_50) H := hP
      have hD : va_D A ([(rf_RW ct 0 mw 958 f1_44), (rf_MO mo mw ma mf m0 m1 mu mv u0 u1 iz th mb mn mpt mbg mwr mwk mlf men)] ++ ws_50) := hD
      refine ty_kv (wr := [(rf_RW ct 0 mw 958 f1_44)]) (wc := ([(rf_MO mo mw ma mf m0 m1 mu mv u0 u1 iz th mb mn mpt mbg mwr mwk mlf men)] ++ ws_50)) (va_runV (As := [.int p1, .int 6, .long r_48]) (rest := []) ⟨hx, hb, hml, hown, hts⟩ (m_X11_putSum l D ct S ws_50 ph xx mo mw ma mf m0 m1 mu mv u0 u1 iz mb th mn mpt mbg mwr mwk mlf men p1 (6 : Int32) r_48 _ hT h_mu h_mv h_u0 h_u1 hph hy1 hy11 (rf_c6 hR_46 hc) (by decide)) (cm_V 3 hts kc_X11_putSum ki_RX11 kl_RX11_265 kv_X11_putSum kx_X11_putSum kd_X11_putSum ⟨Nat.le_of_ble_eq_true rfl, Nat.le_of_ble_eq_true rfl⟩) (ty_preE (wr := [(rf_RW ct 0 mw 958 f1_44)]) (wc := ([(rf_MO mo mw ma mf m0 m1 mu mv u0 u1 iz th mb mn mpt mbg mwr mwk mlf men)] ++ ws_50)) (ci := 11) (q0 := 1) hP hK hD hS hA hX rfl rfl) rfl rfl hl.1 rfl (lv_room (Nat.le_of_ble_eq_true rfl)) dX11_comes_156 ⟨Nat.le_of_ble_eq_true rfl, Nat.le_of_ble_eq_true rfl⟩) hP hD hS hA (fun u H locs hw_52 hP hD hS => ?_)
      obtain ⟨ws_53, rfl⟩ : ∃ z, z = u := ⟨_, rfl⟩
      have hT := hw_52
      have hP : va_P D vwCl ([(rf_RW ct 0 mw 958 f1_44), (rf_MO mo mw ma mf m0 m1 mu mv u0 u1 iz th mb mn mpt mbg mwr mwk mlf men)] ++ ws_53) H := hP
      have hD : va_D A ([(rf_RW ct 0 mw 958 f1_44), (rf_MO mo mw ma mf m0 m1 mu mv u0 u1 iz th mb mn mpt mbg mwr mwk mlf men)] ++ ws_53) := hD
      refine lv_iload hx hb dX11_comes_159 (lv_at hl 0 rfl) ?_
      refine lv_if_eq (tgt := 169) hx hb dX11_comes_161 (by decide) (fun hc => absurd hc (by decide)) (fun _ => ?_)
      refine lv_aload_n hx hb dX11_comes_164 rfl (lv_at hl 1 rfl) ?_
      refine lv_iload_n hx hb dX11_comes_165 rfl (lv_at hl 2 rfl) ?_
      have hP : va_P D vwCl ([(rf_MO mo mw ma mf m0 m1 mu mv u0 u1 iz th mb mn mpt mbg mwr mwk mlf men), (rf_RW ct 0 mw 958 f1_44)] ++ ws_53) H := ty_permP hP (ty_ordp (E := [(rf_RW ct 0 mw 958 f1_44), (rf_MO mo mw ma mf m0 m1 mu mv u0 u1 iz th mb mn mpt mbg mwr mwk mlf men)]) (E2 := [(rf_MO mo mw ma mf m0 m1 mu mv u0 u1 iz th mb mn mpt mbg mwr mwk mlf men), (rf_RW ct 0 mw 958 f1_44)]) (n := 2) [1, 0] rfl rfl (by decide))
      have hD : va_D A ([(rf_MO mo mw ma mf m0 m1 mu mv u0 u1 iz th mb mn mpt mbg mwr mwk mlf men), (rf_RW ct 0 mw 958 f1_44)] ++ ws_53) := ty_permD hD (ty_ordp (E := [(rf_RW ct 0 mw 958 f1_44), (rf_MO mo mw ma mf m0 m1 mu mv u0 u1 iz th mb mn mpt mbg mwr mwk mlf men)]) (E2 := [(rf_MO mo mw ma mf m0 m1 mu mv u0 u1 iz th mb mn mpt mbg mwr mwk mlf men), (rf_RW ct 0 mw 958 f1_44)]) (n := 2) [1, 0] rfl rfl (by decide))
      refine ty_kv (wr := []) (wc := ([(rf_MO mo mw ma mf m0 m1 mu mv u0 u1 iz th mb mn mpt mbg mwr mwk mlf men), (rf_RW ct 0 mw 958 f1_44)] ++ ws_53)) (va_runV (As := [.int p1]) (rest := []) ⟨hx, hb, hml, hown, hts⟩ (m_X11_comesToEnd l D ct S ws_53 ph xx mo mw ma mf m0 m1 mu mv u0 u1 iz mb th mn mpt mbg mwr mwk mlf men f1_44 G p1.toInt p1 _ hT h_mu h_mv h_u0 h_u1 hph hy1 hy11 hR_46 hc (Or.inr rfl)) (cm_V 1 hts kc_X11_comesToEnd ki_RX11 kl_RX11_279 kv_X11_comesToEnd kx_X11_comesToEnd kd_X11_comesToEnd ⟨Nat.le_of_ble_eq_true rfl, Nat.le_of_ble_eq_true rfl⟩) (ty_preE (wr := []) (wc := ([(rf_MO mo mw ma mf m0 m1 mu mv u0 u1 iz th mb mn mpt mbg mwr mwk mlf men), (rf_RW ct 0 mw 958 f1_44)] ++ ws_53)) (ci := 11) (q0 := 0) hP hK hD hS hA hX rfl rfl) rfl rfl hl.1 rfl (lv_room (Nat.le_of_ble_eq_true rfl)) dX11_comes_166 ⟨Nat.le_of_ble_eq_true rfl, Nat.le_of_ble_eq_true rfl⟩) hP hD hS hA (fun u H locs hw_55 hP hD hS => ?_)
      obtain ⟨ws_56, f1_57⟩ := u
      obtain ⟨hT, hp_58⟩ := hw_55
      have hp_58 : rf_R G (-1) f1_57 := hp_58
      have hR_59 := hp_58
      have hP : va_P D vwCl ([(rf_MO mo mw ma mf m0 m1 mu mv u0 u1 iz th mb mn mpt mbg mwr mwk mlf men), (rf_RW ct 0 mw 958 f1_57)] ++ ws_56) H := hP
      have hD : va_D A ([(rf_MO mo mw ma mf m0 m1 mu mv u0 u1 iz th mb mn mpt mbg mwr mwk mlf men), (rf_RW ct 0 mw 958 f1_57)] ++ ws_56) := hD
      exact W.vret hx hb hr (fun t ht hW => ⟨⟨(ws_56, f1_57), rfl, ⟨hT, hR_59⟩, by rw [ht]; exact hP, by rw [hAe]; exact hD⟩, hS.F ht⟩) hS.2.2 dX11_comes_169
  · refine lv_aload_n hx hb dX11_comes_20 rfl (lv_at hl 0 rfl) ?_
    refine lv_iload_n hx hb dX11_comes_21 rfl (lv_at hl 3 rfl) ?_
    refine lv_iload hx hb dX11_comes_22 (lv_at hl 4 rfl) ?_
    refine lv_iconst (v := 0) hx hb dX11_comes_24 (by decide) ?_
    refine ty_ki (wr := []) (wc := ([(rf_MO mo mw ma mf m0 m1 mu mv u0 u1 iz th mb mn mpt mbg mwr mwk mlf men), (rf_RW ct 0 mw 958 f_5)] ++ ws_8)) (va_runV (As := [.int (rf_of f p1 1), .int y_4, .int 0]) (rest := []) ⟨hx, hb, hml, hown, hts⟩ (m_stepOf_0 l D ct S ws_8 ph xx mo mw ma mf m0 m1 mu mv u0 u1 iz mb th mn mpt mbg mwr mwk mlf men f_5 G cx (rf_of f p1 1) y_4 _ hT h_mu h_mv h_u0 h_u1 hph hy1 hR_10 (rf_p4 hR_10 hp) (by have := (show 0 ≤ y_4.toInt ∧ y_4.toInt < (G (96 + 37 * (rf_of f p1 1).toInt.toNat)).toInt from ⟨hex_10.1, by rw [← (rf_ps hR_10 hpn).2.1]; exact rf_ylt rfl hc_9⟩); have := (show 0 ≤ y_4.toInt ∧ y_4.toInt ≤ 11 from by have := (rf_ps hR_10 hpn).1.2; have := (show 0 ≤ y_4.toInt ∧ y_4.toInt < (G (96 + 37 * (rf_of f p1 1).toInt.toNat)).toInt from ⟨hex_10.1, by rw [← (rf_ps hR_10 hpn).2.1]; exact rf_ylt rfl hc_9⟩); omega); omega)) (cm_V 3 hts kc_X11_stepOf ki_RX11 kl_RX11_218 kv_X11_stepOf kx_X11_stepOf kd_X11_stepOf ⟨Nat.le_of_ble_eq_true rfl, Nat.le_of_ble_eq_true rfl⟩) (ty_preE (wr := []) (wc := ([(rf_MO mo mw ma mf m0 m1 mu mv u0 u1 iz th mb mn mpt mbg mwr mwk mlf men), (rf_RW ct 0 mw 958 f_5)] ++ ws_8)) (ci := 11) (q0 := 0) hP hK hD hS hA hX rfl rfl) rfl rfl hl.1 rfl (lv_room (Nat.le_of_ble_eq_true rfl)) dX11_comes_25 ⟨Nat.le_of_ble_eq_true rfl, Nat.le_of_ble_eq_true rfl⟩) hP hD hS hA (fun r_61 u H locs hw_62 hP hD hS => ?_)
    obtain ⟨ws_63, rfl⟩ : ∃ z, z = u := ⟨_, rfl⟩
    obtain ⟨hT, rfl⟩ := hw_62
    have hP : va_P D vwCl ([(rf_MO mo mw ma mf m0 m1 mu mv u0 u1 iz th mb mn mpt mbg mwr mwk mlf men), (rf_RW ct 0 mw 958 f_5)] ++ ws_63) H := hP
    have hD : va_D A ([(rf_MO mo mw ma mf m0 m1 mu mv u0 u1 iz th mb mn mpt mbg mwr mwk mlf men), (rf_RW ct 0 mw 958 f_5)] ++ ws_63) := hD
    refine lv_iconst (v := 4) hx hb dX11_comes_28 (by decide) ?_
    refine lv_icmp_ne (tgt := 105) hx hb dX11_comes_29 (by decide) (fun hc_64 => ?_) (fun hc_64 => ?_)
    · refine lv_iload hx hb dX11_comes_105 (lv_at hl 4 rfl) ?_
      refine lv_aload_n hx hb dX11_comes_107 rfl (lv_at hl 0 rfl) ?_
      refine lv_iload_n hx hb dX11_comes_108 rfl (lv_at hl 3 rfl) ?_
      refine ty_ki (wr := []) (wc := ([(rf_MO mo mw ma mf m0 m1 mu mv u0 u1 iz th mb mn mpt mbg mwr mwk mlf men), (rf_RW ct 0 mw 958 f_5)] ++ ws_63)) (va_runV (As := [.int (rf_of f p1 1)]) (rest := [.int y_4]) ⟨hx, hb, hml, hown, hts⟩ (m_X11_stepsOf l D ct S ws_63 ph xx mo mw ma mf m0 m1 mu mv u0 u1 iz mb th mn mpt mbg mwr mwk mlf men f_5 G cx (rf_of f p1 1) _ hT h_mu h_mv h_u0 h_u1 hph hy1 hR_10 (rf_p4 hR_10 hp)) (cm_V 1 hts kc_X11_stepsOf ki_RX11 kl_RX11_276 kv_X11_stepsOf kx_X11_stepsOf kd_X11_stepsOf ⟨Nat.le_of_ble_eq_true rfl, Nat.le_of_ble_eq_true rfl⟩) (ty_preE (wr := []) (wc := ([(rf_MO mo mw ma mf m0 m1 mu mv u0 u1 iz th mb mn mpt mbg mwr mwk mlf men), (rf_RW ct 0 mw 958 f_5)] ++ ws_63)) (ci := 11) (q0 := 0) hP hK hD hS hA hX rfl rfl) rfl rfl hl.1 rfl (lv_room (Nat.le_of_ble_eq_true rfl)) dX11_comes_109 ⟨Nat.le_of_ble_eq_true rfl, Nat.le_of_ble_eq_true rfl⟩) hP hD hS hA (fun r_65 u H locs hw_66 hP hD hS => ?_)
      obtain ⟨ws_67, rfl⟩ : ∃ z, z = u := ⟨_, rfl⟩
      obtain ⟨hT, rfl⟩ := hw_66
      have hP : va_P D vwCl ([(rf_MO mo mw ma mf m0 m1 mu mv u0 u1 iz th mb mn mpt mbg mwr mwk mlf men), (rf_RW ct 0 mw 958 f_5)] ++ ws_67) H := hP
      have hD : va_D A ([(rf_MO mo mw ma mf m0 m1 mu mv u0 u1 iz th mb mn mpt mbg mwr mwk mlf men), (rf_RW ct 0 mw 958 f_5)] ++ ws_67) := hD
      refine lv_icmp_ne (tgt := 119) hx hb dX11_comes_112 (by decide) (fun hc_68 => ?_) (fun hc_68 => ?_)
      · refine lv_iconst (v := 0) hx hb dX11_comes_119 (by decide) ?_
        refine lv_istore (lv' := [(5, .int 0), (0, .ref mo), (1, .int p1), (2, .int p2), (3, .int (rf_of f p1 1)), (4, .int y_4)]) hx hb dX11_comes_120 hl (by decide) rfl (fun ls hl => ?_)
        refine lv_aload_n hx hb dX11_comes_122 rfl (lv_at hl 1 rfl) ?_
        refine lv_iload_n hx hb dX11_comes_123 rfl (lv_at hl 2 rfl) ?_
        refine lv_iconst (v := 2) hx hb dX11_comes_124 (by decide) ?_
        refine lv_iload hx hb dX11_comes_125 (lv_at hl 0 rfl) ?_
        refine lv_if_eq (tgt := 134) hx hb dX11_comes_127 (by decide) (fun _ => ?_) (fun hc => absurd (by decide) hc)
        refine lv_iload hx hb dX11_comes_134 (lv_at hl 5 rfl) ?_
        refine ty_kv (wr := []) (wc := ([(rf_MO mo mw ma mf m0 m1 mu mv u0 u1 iz th mb mn mpt mbg mwr mwk mlf men), (rf_RW ct 0 mw 958 f_5)] ++ ws_67)) (va_runV (As := [.int p1, .int 2, .int y_4]) (rest := []) ⟨hx, hb, hml, hown, hts⟩ (m_put_2 l D ct S ws_67 ph xx mo mw ma mf m0 m1 mu mv u0 u1 iz mb th mn mpt mbg mwr mwk mlf men f_5 G cx p1 y_4 _ hT h_mu h_mv h_u0 h_u1 hph hy1 hR_10 hc hcx (rf_step2 hex_10.1 (by have := rf_nes hc_68 (by rw [(rf_ps hR_10 hpn).2.1]; exact hex_10.2); have := (rf_ps hR_10 hpn).1.2; have e9 := congrArg Int32.toInt (rf_ps hR_10 hpn).2.1; omega))) (cm_V 3 hts kc_X11_put ki_RX11 kl_RX11_234 kv_X11_put kx_X11_put kd_X11_put ⟨Nat.le_of_ble_eq_true rfl, Nat.le_of_ble_eq_true rfl⟩) (ty_preE (wr := []) (wc := ([(rf_MO mo mw ma mf m0 m1 mu mv u0 u1 iz th mb mn mpt mbg mwr mwk mlf men), (rf_RW ct 0 mw 958 f_5)] ++ ws_67)) (ci := 11) (q0 := 0) hP hK hD hS hA hX rfl rfl) rfl rfl hl.1 rfl (lv_room (Nat.le_of_ble_eq_true rfl)) dX11_comes_136 ⟨Nat.le_of_ble_eq_true rfl, Nat.le_of_ble_eq_true rfl⟩) hP hD hS hA (fun u H locs hw_70 hP hD hS => ?_)
        obtain ⟨ws_71, f1_72⟩ := u
        obtain ⟨hT, hp_73⟩ := hw_70
        have hp_73 : rf_R G p1.toInt f1_72 ∧ f1_72 = upd f_5 (244 + 54 * p1.toInt.toNat + 2) y_4 := hp_73
        have hR_74 := hp_73.1
        have hP : va_P D vwCl ([(rf_MO mo mw ma mf m0 m1 mu mv u0 u1 iz th mb mn mpt mbg mwr mwk mlf men), (rf_RW ct 0 mw 958 f1_72)] ++ ws_71) H := hP
        have hD : va_D A ([(rf_MO mo mw ma mf m0 m1 mu mv u0 u1 iz th mb mn mpt mbg mwr mwk mlf men), (rf_RW ct 0 mw 958 f1_72)] ++ ws_71) := hD
        refine lv_aload_n hx hb dX11_comes_139 rfl (lv_at hl 1 rfl) ?_
        refine lv_iload_n hx hb dX11_comes_140 rfl (lv_at hl 2 rfl) ?_
        refine lv_iconst (v := 3) hx hb dX11_comes_141 (by decide) ?_
        refine lv_iconst (v := 0) hx hb dX11_comes_142 (by decide) ?_
        refine ty_kv (wr := []) (wc := ([(rf_MO mo mw ma mf m0 m1 mu mv u0 u1 iz th mb mn mpt mbg mwr mwk mlf men), (rf_RW ct 0 mw 958 f1_72)] ++ ws_71)) (va_runV (As := [.int p1, .int 3, .int 0]) (rest := []) ⟨hx, hb, hml, hown, hts⟩ (m_put_3 l D ct S ws_71 ph xx mo mw ma mf m0 m1 mu mv u0 u1 iz mb th mn mpt mbg mwr mwk mlf men f1_72 G p1.toInt p1 (0 : Int32) _ hT h_mu h_mv h_u0 h_u1 hph hy1 hR_74 hc) (cm_V 3 hts kc_X11_put ki_RX11 kl_RX11_234 kv_X11_put kx_X11_put kd_X11_put ⟨Nat.le_of_ble_eq_true rfl, Nat.le_of_ble_eq_true rfl⟩) (ty_preE (wr := []) (wc := ([(rf_MO mo mw ma mf m0 m1 mu mv u0 u1 iz th mb mn mpt mbg mwr mwk mlf men), (rf_RW ct 0 mw 958 f1_72)] ++ ws_71)) (ci := 11) (q0 := 0) hP hK hD hS hA hX rfl rfl) rfl rfl hl.1 rfl (lv_room (Nat.le_of_ble_eq_true rfl)) dX11_comes_143 ⟨Nat.le_of_ble_eq_true rfl, Nat.le_of_ble_eq_true rfl⟩) hP hD hS hA (fun u H locs hw_77 hP hD hS => ?_)
        obtain ⟨ws_78, f1_79⟩ := u
        obtain ⟨hT, hp_80⟩ := hw_77
        have hp_80 : rf_R G p1.toInt f1_79 ∧ rf_sm f1_72 f1_79 ∧ f1_79 = upd f1_72 (244 + 54 * p1.toInt.toNat + 3) (0 : Int32) := hp_80
        have hR_81 := hp_80.1
        have hP : va_P D vwCl ([(rf_MO mo mw ma mf m0 m1 mu mv u0 u1 iz th mb mn mpt mbg mwr mwk mlf men), (rf_RW ct 0 mw 958 f1_79)] ++ ws_78) H := hP
        have hD : va_D A ([(rf_MO mo mw ma mf m0 m1 mu mv u0 u1 iz th mb mn mpt mbg mwr mwk mlf men), (rf_RW ct 0 mw 958 f1_79)] ++ ws_78) := hD
        refine lv_aload_n hx hb dX11_comes_146 rfl (lv_at hl 1 rfl) ?_
        refine lv_iload_n hx hb dX11_comes_147 rfl (lv_at hl 2 rfl) ?_
        refine lv_bipush (v := 6) hx hb dX11_comes_148 (by decide) ?_
        refine lv_aload_n hx hb dX11_comes_150 rfl (lv_at hl 1 rfl) ?_
        refine lv_iload_n hx hb dX11_comes_151 rfl (lv_at hl 2 rfl) ?_
        refine lv_iconst (v := 1) hx hb dX11_comes_152 (by decide) ?_
        have hP : va_P D vwCl ([(rf_RW ct 0 mw 958 f1_79), (rf_MO mo mw ma mf m0 m1 mu mv u0 u1 iz th mb mn mpt mbg mwr mwk mlf men)] ++ ws_78) H := ty_permP hP (ty_ordp (E := [(rf_MO mo mw ma mf m0 m1 mu mv u0 u1 iz th mb mn mpt mbg mwr mwk mlf men), (rf_RW ct 0 mw 958 f1_79)]) (E2 := [(rf_RW ct 0 mw 958 f1_79), (rf_MO mo mw ma mf m0 m1 mu mv u0 u1 iz th mb mn mpt mbg mwr mwk mlf men)]) (n := 2) [1, 0] rfl rfl (by decide))
        have hD : va_D A ([(rf_RW ct 0 mw 958 f1_79), (rf_MO mo mw ma mf m0 m1 mu mv u0 u1 iz th mb mn mpt mbg mwr mwk mlf men)] ++ ws_78) := ty_permD hD (ty_ordp (E := [(rf_MO mo mw ma mf m0 m1 mu mv u0 u1 iz th mb mn mpt mbg mwr mwk mlf men), (rf_RW ct 0 mw 958 f1_79)]) (E2 := [(rf_RW ct 0 mw 958 f1_79), (rf_MO mo mw ma mf m0 m1 mu mv u0 u1 iz th mb mn mpt mbg mwr mwk mlf men)]) (n := 2) [1, 0] rfl rfl (by decide))
        refine ty_kl (wr := [(rf_RW ct 0 mw 958 f1_79)]) (wc := ([(rf_MO mo mw ma mf m0 m1 mu mv u0 u1 iz th mb mn mpt mbg mwr mwk mlf men)] ++ ws_78)) (va_runV (As := [.int p1, .int 1]) (rest := [.int 6, .int p1, .ref mo]) ⟨hx, hb, hml, hown, hts⟩ (m_X11_sum l D ct S ws_78 ph xx mo mw ma mf m0 m1 mu mv u0 u1 iz mb th mn mpt mbg mwr mwk mlf men p1 (1 : Int32) _ hT h_mu h_mv h_u0 h_u1 hph hy1 (rf_c6 hR_81 hc) (by decide)) (cm_V 2 hts kc_X11_sum ki_RX11 kl_RX11_261 kv_X11_sum kx_X11_sum kd_X11_sum ⟨Nat.le_of_ble_eq_true rfl, Nat.le_of_ble_eq_true rfl⟩) (ty_preE (wr := [(rf_RW ct 0 mw 958 f1_79)]) (wc := ([(rf_MO mo mw ma mf m0 m1 mu mv u0 u1 iz th mb mn mpt mbg mwr mwk mlf men)] ++ ws_78)) (ci := 11) (q0 := 1) hP hK hD hS hA hX rfl rfl) rfl rfl hl.1 rfl (lv_room (Nat.le_of_ble_eq_true rfl)) dX11_comes_153 ⟨Nat.le_of_ble_eq_true rfl, Nat.le_of_ble_eq_true rfl⟩) hP hD hS hA (fun r_83 u H locs hw_84 hP hD hS => ?_)
        obtain ⟨ws_85, rfl⟩ : ∃ z, z = u := ⟨_, rfl⟩
        have hT := hw_84
        have hP : va_P D vwCl ([(rf_RW ct 0 mw 958 f1_79), (rf_MO mo mw ma mf m0 m1 mu mv u0 u1 iz th mb mn mpt mbg mwr mwk mlf men)] ++ ws_85) H := hP
        have hD : va_D A ([(rf_RW ct 0 mw 958 f1_79), (rf_MO mo mw ma mf m0 m1 mu mv u0 u1 iz th mb mn mpt mbg mwr mwk mlf men)] ++ ws_85) := hD
        refine ty_kv (wr := [(rf_RW ct 0 mw 958 f1_79)]) (wc := ([(rf_MO mo mw ma mf m0 m1 mu mv u0 u1 iz th mb mn mpt mbg mwr mwk mlf men)] ++ ws_85)) (va_runV (As := [.int p1, .int 6, .long r_83]) (rest := []) ⟨hx, hb, hml, hown, hts⟩ (m_X11_putSum l D ct S ws_85 ph xx mo mw ma mf m0 m1 mu mv u0 u1 iz mb th mn mpt mbg mwr mwk mlf men p1 (6 : Int32) r_83 _ hT h_mu h_mv h_u0 h_u1 hph hy1 hy11 (rf_c6 hR_81 hc) (by decide)) (cm_V 3 hts kc_X11_putSum ki_RX11 kl_RX11_265 kv_X11_putSum kx_X11_putSum kd_X11_putSum ⟨Nat.le_of_ble_eq_true rfl, Nat.le_of_ble_eq_true rfl⟩) (ty_preE (wr := [(rf_RW ct 0 mw 958 f1_79)]) (wc := ([(rf_MO mo mw ma mf m0 m1 mu mv u0 u1 iz th mb mn mpt mbg mwr mwk mlf men)] ++ ws_85)) (ci := 11) (q0 := 1) hP hK hD hS hA hX rfl rfl) rfl rfl hl.1 rfl (lv_room (Nat.le_of_ble_eq_true rfl)) dX11_comes_156 ⟨Nat.le_of_ble_eq_true rfl, Nat.le_of_ble_eq_true rfl⟩) hP hD hS hA (fun u H locs hw_87 hP hD hS => ?_)
        obtain ⟨ws_88, rfl⟩ : ∃ z, z = u := ⟨_, rfl⟩
        have hT := hw_87
        have hP : va_P D vwCl ([(rf_RW ct 0 mw 958 f1_79), (rf_MO mo mw ma mf m0 m1 mu mv u0 u1 iz th mb mn mpt mbg mwr mwk mlf men)] ++ ws_88) H := hP
        have hD : va_D A ([(rf_RW ct 0 mw 958 f1_79), (rf_MO mo mw ma mf m0 m1 mu mv u0 u1 iz th mb mn mpt mbg mwr mwk mlf men)] ++ ws_88) := hD
        refine lv_iload hx hb dX11_comes_159 (lv_at hl 0 rfl) ?_
        refine lv_if_eq (tgt := 169) hx hb dX11_comes_161 (by decide) (fun _ => ?_) (fun hc => absurd (by decide) hc)
        have e1 : rf_of f1_79 p1 1 = rf_of f_5 p1 1 := by rw [hp_80.2.2, rf_ne (by decide), hp_73.2]; exact rf_ne (by decide)
        have e2 : rf_of f1_79 p1 2 = y_4 := by rw [hp_80.2.2, rf_ne (by decide), hp_73.2]; exact rf_eq
        have e0 : rf_of f_5 p1 1 = rf_of f p1 1 := rf_smof (rf_c6 hR hc) hM_10 (by decide)
        have hRf := rf_back9 hc.1 hR_81 (Or.inr rfl) (rf_runok hc.1 (by unfold rf_on; rw [e1, e2, e0]; exact ⟨hp, hex_10.1, by rw [← (rf_ps hR_10 hpn).2.1]; exact rf_nes hc_68 (by rw [(rf_ps hR_10 hpn).2.1]; exact hex_10.2)⟩))
        have hP : va_P D vwCl ([(rf_MO mo mw ma mf m0 m1 mu mv u0 u1 iz th mb mn mpt mbg mwr mwk mlf men), (rf_RW ct 0 mw 958 f1_79)] ++ ws_88) H := ty_permP hP (ty_ordp (E := [(rf_RW ct 0 mw 958 f1_79), (rf_MO mo mw ma mf m0 m1 mu mv u0 u1 iz th mb mn mpt mbg mwr mwk mlf men)]) (E2 := [(rf_MO mo mw ma mf m0 m1 mu mv u0 u1 iz th mb mn mpt mbg mwr mwk mlf men), (rf_RW ct 0 mw 958 f1_79)]) (n := 2) [1, 0] rfl rfl (by decide))
        have hD : va_D A ([(rf_MO mo mw ma mf m0 m1 mu mv u0 u1 iz th mb mn mpt mbg mwr mwk mlf men), (rf_RW ct 0 mw 958 f1_79)] ++ ws_88) := ty_permD hD (ty_ordp (E := [(rf_RW ct 0 mw 958 f1_79), (rf_MO mo mw ma mf m0 m1 mu mv u0 u1 iz th mb mn mpt mbg mwr mwk mlf men)]) (E2 := [(rf_MO mo mw ma mf m0 m1 mu mv u0 u1 iz th mb mn mpt mbg mwr mwk mlf men), (rf_RW ct 0 mw 958 f1_79)]) (n := 2) [1, 0] rfl rfl (by decide))
        exact W.vret hx hb hr (fun t ht hW => ⟨⟨(ws_88, f1_79), rfl, ⟨hT, hRf⟩, by rw [ht]; exact hP, by rw [hAe]; exact hD⟩, hS.F ht⟩) hS.2.2 dX11_comes_169
      · refine lv_iconst (v := 1) hx hb dX11_comes_115 (by decide) ?_
        refine lv_goto (tgt := 120) hx hb dX11_comes_116 (by decide) ?_
        refine lv_istore (lv' := [(5, .int 1), (0, .ref mo), (1, .int p1), (2, .int p2), (3, .int (rf_of f p1 1)), (4, .int y_4)]) hx hb dX11_comes_120 hl (by decide) rfl (fun ls hl => ?_)
        refine lv_aload_n hx hb dX11_comes_122 rfl (lv_at hl 1 rfl) ?_
        refine lv_iload_n hx hb dX11_comes_123 rfl (lv_at hl 2 rfl) ?_
        refine lv_iconst (v := 2) hx hb dX11_comes_124 (by decide) ?_
        refine lv_iload hx hb dX11_comes_125 (lv_at hl 0 rfl) ?_
        refine lv_if_eq (tgt := 134) hx hb dX11_comes_127 (by decide) (fun hc => absurd hc (by decide)) (fun _ => ?_)
        refine lv_iconst (v := (-1)) hx hb dX11_comes_130 (by decide) ?_
        refine lv_goto (tgt := 136) hx hb dX11_comes_131 (by decide) ?_
        refine ty_kv (wr := []) (wc := ([(rf_MO mo mw ma mf m0 m1 mu mv u0 u1 iz th mb mn mpt mbg mwr mwk mlf men), (rf_RW ct 0 mw 958 f_5)] ++ ws_67)) (va_runV (As := [.int p1, .int 2, .int (-1)]) (rest := []) ⟨hx, hb, hml, hown, hts⟩ (m_put_2 l D ct S ws_67 ph xx mo mw ma mf m0 m1 mu mv u0 u1 iz mb th mn mpt mbg mwr mwk mlf men f_5 G cx p1 ((-1) : Int32) _ hT h_mu h_mv h_u0 h_u1 hph hy1 hR_10 hc hcx (fun _ => (show -1 ≤ (-1 : Int32).toInt ∧ (-1 : Int32).toInt ≤ 11 from by decide))) (cm_V 3 hts kc_X11_put ki_RX11 kl_RX11_234 kv_X11_put kx_X11_put kd_X11_put ⟨Nat.le_of_ble_eq_true rfl, Nat.le_of_ble_eq_true rfl⟩) (ty_preE (wr := []) (wc := ([(rf_MO mo mw ma mf m0 m1 mu mv u0 u1 iz th mb mn mpt mbg mwr mwk mlf men), (rf_RW ct 0 mw 958 f_5)] ++ ws_67)) (ci := 11) (q0 := 0) hP hK hD hS hA hX rfl rfl) rfl rfl hl.1 rfl (lv_room (Nat.le_of_ble_eq_true rfl)) dX11_comes_136 ⟨Nat.le_of_ble_eq_true rfl, Nat.le_of_ble_eq_true rfl⟩) hP hD hS hA (fun u H locs hw_90 hP hD hS => ?_)
        obtain ⟨ws_91, f1_92⟩ := u
        obtain ⟨hT, hp_93⟩ := hw_90
        have hp_93 : rf_R G p1.toInt f1_92 ∧ f1_92 = upd f_5 (244 + 54 * p1.toInt.toNat + 2) ((-1) : Int32) := hp_93
        have hR_94 := hp_93.1
        have hP : va_P D vwCl ([(rf_MO mo mw ma mf m0 m1 mu mv u0 u1 iz th mb mn mpt mbg mwr mwk mlf men), (rf_RW ct 0 mw 958 f1_92)] ++ ws_91) H := hP
        have hD : va_D A ([(rf_MO mo mw ma mf m0 m1 mu mv u0 u1 iz th mb mn mpt mbg mwr mwk mlf men), (rf_RW ct 0 mw 958 f1_92)] ++ ws_91) := hD
        refine lv_aload_n hx hb dX11_comes_139 rfl (lv_at hl 1 rfl) ?_
        refine lv_iload_n hx hb dX11_comes_140 rfl (lv_at hl 2 rfl) ?_
        refine lv_iconst (v := 3) hx hb dX11_comes_141 (by decide) ?_
        refine lv_iconst (v := 0) hx hb dX11_comes_142 (by decide) ?_
        refine ty_kv (wr := []) (wc := ([(rf_MO mo mw ma mf m0 m1 mu mv u0 u1 iz th mb mn mpt mbg mwr mwk mlf men), (rf_RW ct 0 mw 958 f1_92)] ++ ws_91)) (va_runV (As := [.int p1, .int 3, .int 0]) (rest := []) ⟨hx, hb, hml, hown, hts⟩ (m_put_3 l D ct S ws_91 ph xx mo mw ma mf m0 m1 mu mv u0 u1 iz mb th mn mpt mbg mwr mwk mlf men f1_92 G p1.toInt p1 (0 : Int32) _ hT h_mu h_mv h_u0 h_u1 hph hy1 hR_94 hc) (cm_V 3 hts kc_X11_put ki_RX11 kl_RX11_234 kv_X11_put kx_X11_put kd_X11_put ⟨Nat.le_of_ble_eq_true rfl, Nat.le_of_ble_eq_true rfl⟩) (ty_preE (wr := []) (wc := ([(rf_MO mo mw ma mf m0 m1 mu mv u0 u1 iz th mb mn mpt mbg mwr mwk mlf men), (rf_RW ct 0 mw 958 f1_92)] ++ ws_91)) (ci := 11) (q0 := 0) hP hK hD hS hA hX rfl rfl) rfl rfl hl.1 rfl (lv_room (Nat.le_of_ble_eq_true rfl)) dX11_comes_143 ⟨Nat.le_of_ble_eq_true rfl, Nat.le_of_ble_eq_true rfl⟩) hP hD hS hA (fun u H locs hw_97 hP hD hS => ?_)
        obtain ⟨ws_98, f1_99⟩ := u
        obtain ⟨hT, hp_100⟩ := hw_97
        have hp_100 : rf_R G p1.toInt f1_99 ∧ rf_sm f1_92 f1_99 ∧ f1_99 = upd f1_92 (244 + 54 * p1.toInt.toNat + 3) (0 : Int32) := hp_100
        have hR_101 := hp_100.1
        have hP : va_P D vwCl ([(rf_MO mo mw ma mf m0 m1 mu mv u0 u1 iz th mb mn mpt mbg mwr mwk mlf men), (rf_RW ct 0 mw 958 f1_99)] ++ ws_98) H := hP
        have hD : va_D A ([(rf_MO mo mw ma mf m0 m1 mu mv u0 u1 iz th mb mn mpt mbg mwr mwk mlf men), (rf_RW ct 0 mw 958 f1_99)] ++ ws_98) := hD
        refine lv_aload_n hx hb dX11_comes_146 rfl (lv_at hl 1 rfl) ?_
        refine lv_iload_n hx hb dX11_comes_147 rfl (lv_at hl 2 rfl) ?_
        refine lv_bipush (v := 6) hx hb dX11_comes_148 (by decide) ?_
        refine lv_aload_n hx hb dX11_comes_150 rfl (lv_at hl 1 rfl) ?_
        refine lv_iload_n hx hb dX11_comes_151 rfl (lv_at hl 2 rfl) ?_
        refine lv_iconst (v := 1) hx hb dX11_comes_152 (by decide) ?_
        have hP : va_P D vwCl ([(rf_RW ct 0 mw 958 f1_99), (rf_MO mo mw ma mf m0 m1 mu mv u0 u1 iz th mb mn mpt mbg mwr mwk mlf men)] ++ ws_98) H := ty_permP hP (ty_ordp (E := [(rf_MO mo mw ma mf m0 m1 mu mv u0 u1 iz th mb mn mpt mbg mwr mwk mlf men), (rf_RW ct 0 mw 958 f1_99)]) (E2 := [(rf_RW ct 0 mw 958 f1_99), (rf_MO mo mw ma mf m0 m1 mu mv u0 u1 iz th mb mn mpt mbg mwr mwk mlf men)]) (n := 2) [1, 0] rfl rfl (by decide))
        have hD : va_D A ([(rf_RW ct 0 mw 958 f1_99), (rf_MO mo mw ma mf m0 m1 mu mv u0 u1 iz th mb mn mpt mbg mwr mwk mlf men)] ++ ws_98) := ty_permD hD (ty_ordp (E := [(rf_MO mo mw ma mf m0 m1 mu mv u0 u1 iz th mb mn mpt mbg mwr mwk mlf men), (rf_RW ct 0 mw 958 f1_99)]) (E2 := [(rf_RW ct 0 mw 958 f1_99), (rf_MO mo mw ma mf m0 m1 mu mv u0 u1 iz th mb mn mpt mbg mwr mwk mlf men)]) (n := 2) [1, 0] rfl rfl (by decide))
        refine ty_kl (wr := [(rf_RW ct 0 mw 958 f1_99)]) (wc := ([(rf_MO mo mw ma mf m0 m1 mu mv u0 u1 iz th mb mn mpt mbg mwr mwk mlf men)] ++ ws_98)) (va_runV (As := [.int p1, .int 1]) (rest := [.int 6, .int p1, .ref mo]) ⟨hx, hb, hml, hown, hts⟩ (m_X11_sum l D ct S ws_98 ph xx mo mw ma mf m0 m1 mu mv u0 u1 iz mb th mn mpt mbg mwr mwk mlf men p1 (1 : Int32) _ hT h_mu h_mv h_u0 h_u1 hph hy1 (rf_c6 hR_101 hc) (by decide)) (cm_V 2 hts kc_X11_sum ki_RX11 kl_RX11_261 kv_X11_sum kx_X11_sum kd_X11_sum ⟨Nat.le_of_ble_eq_true rfl, Nat.le_of_ble_eq_true rfl⟩) (ty_preE (wr := [(rf_RW ct 0 mw 958 f1_99)]) (wc := ([(rf_MO mo mw ma mf m0 m1 mu mv u0 u1 iz th mb mn mpt mbg mwr mwk mlf men)] ++ ws_98)) (ci := 11) (q0 := 1) hP hK hD hS hA hX rfl rfl) rfl rfl hl.1 rfl (lv_room (Nat.le_of_ble_eq_true rfl)) dX11_comes_153 ⟨Nat.le_of_ble_eq_true rfl, Nat.le_of_ble_eq_true rfl⟩) hP hD hS hA (fun r_103 u H locs hw_104 hP hD hS => ?_)
        obtain ⟨ws_105, rfl⟩ : ∃ z, z = u := ⟨_, rfl⟩
        have hT := hw_104
        have hP : va_P D vwCl ([(rf_RW ct 0 mw 958 f1_99), (rf_MO mo mw ma mf m0 m1 mu mv u0 u1 iz th mb mn mpt mbg mwr mwk mlf men)] ++ ws_105) H := hP
        have hD : va_D A ([(rf_RW ct 0 mw 958 f1_99), (rf_MO mo mw ma mf m0 m1 mu mv u0 u1 iz th mb mn mpt mbg mwr mwk mlf men)] ++ ws_105) := hD
        refine ty_kv (wr := [(rf_RW ct 0 mw 958 f1_99)]) (wc := ([(rf_MO mo mw ma mf m0 m1 mu mv u0 u1 iz th mb mn mpt mbg mwr mwk mlf men)] ++ ws_105)) (va_runV (As := [.int p1, .int 6, .long r_103]) (rest := []) ⟨hx, hb, hml, hown, hts⟩ (m_X11_putSum l D ct S ws_105 ph xx mo mw ma mf m0 m1 mu mv u0 u1 iz mb th mn mpt mbg mwr mwk mlf men p1 (6 : Int32) r_103 _ hT h_mu h_mv h_u0 h_u1 hph hy1 hy11 (rf_c6 hR_101 hc) (by decide)) (cm_V 3 hts kc_X11_putSum ki_RX11 kl_RX11_265 kv_X11_putSum kx_X11_putSum kd_X11_putSum ⟨Nat.le_of_ble_eq_true rfl, Nat.le_of_ble_eq_true rfl⟩) (ty_preE (wr := [(rf_RW ct 0 mw 958 f1_99)]) (wc := ([(rf_MO mo mw ma mf m0 m1 mu mv u0 u1 iz th mb mn mpt mbg mwr mwk mlf men)] ++ ws_105)) (ci := 11) (q0 := 1) hP hK hD hS hA hX rfl rfl) rfl rfl hl.1 rfl (lv_room (Nat.le_of_ble_eq_true rfl)) dX11_comes_156 ⟨Nat.le_of_ble_eq_true rfl, Nat.le_of_ble_eq_true rfl⟩) hP hD hS hA (fun u H locs hw_107 hP hD hS => ?_)
        obtain ⟨ws_108, rfl⟩ : ∃ z, z = u := ⟨_, rfl⟩
        have hT := hw_107
        have hP : va_P D vwCl ([(rf_RW ct 0 mw 958 f1_99), (rf_MO mo mw ma mf m0 m1 mu mv u0 u1 iz th mb mn mpt mbg mwr mwk mlf men)] ++ ws_108) H := hP
        have hD : va_D A ([(rf_RW ct 0 mw 958 f1_99), (rf_MO mo mw ma mf m0 m1 mu mv u0 u1 iz th mb mn mpt mbg mwr mwk mlf men)] ++ ws_108) := hD
        refine lv_iload hx hb dX11_comes_159 (lv_at hl 0 rfl) ?_
        refine lv_if_eq (tgt := 169) hx hb dX11_comes_161 (by decide) (fun hc => absurd hc (by decide)) (fun _ => ?_)
        refine lv_aload_n hx hb dX11_comes_164 rfl (lv_at hl 1 rfl) ?_
        refine lv_iload_n hx hb dX11_comes_165 rfl (lv_at hl 2 rfl) ?_
        have hP : va_P D vwCl ([(rf_MO mo mw ma mf m0 m1 mu mv u0 u1 iz th mb mn mpt mbg mwr mwk mlf men), (rf_RW ct 0 mw 958 f1_99)] ++ ws_108) H := ty_permP hP (ty_ordp (E := [(rf_RW ct 0 mw 958 f1_99), (rf_MO mo mw ma mf m0 m1 mu mv u0 u1 iz th mb mn mpt mbg mwr mwk mlf men)]) (E2 := [(rf_MO mo mw ma mf m0 m1 mu mv u0 u1 iz th mb mn mpt mbg mwr mwk mlf men), (rf_RW ct 0 mw 958 f1_99)]) (n := 2) [1, 0] rfl rfl (by decide))
        have hD : va_D A ([(rf_MO mo mw ma mf m0 m1 mu mv u0 u1 iz th mb mn mpt mbg mwr mwk mlf men), (rf_RW ct 0 mw 958 f1_99)] ++ ws_108) := ty_permD hD (ty_ordp (E := [(rf_RW ct 0 mw 958 f1_99), (rf_MO mo mw ma mf m0 m1 mu mv u0 u1 iz th mb mn mpt mbg mwr mwk mlf men)]) (E2 := [(rf_MO mo mw ma mf m0 m1 mu mv u0 u1 iz th mb mn mpt mbg mwr mwk mlf men), (rf_RW ct 0 mw 958 f1_99)]) (n := 2) [1, 0] rfl rfl (by decide))
        refine ty_kv (wr := []) (wc := ([(rf_MO mo mw ma mf m0 m1 mu mv u0 u1 iz th mb mn mpt mbg mwr mwk mlf men), (rf_RW ct 0 mw 958 f1_99)] ++ ws_108)) (va_runV (As := [.int p1]) (rest := []) ⟨hx, hb, hml, hown, hts⟩ (m_X11_comesToEnd l D ct S ws_108 ph xx mo mw ma mf m0 m1 mu mv u0 u1 iz mb th mn mpt mbg mwr mwk mlf men f1_99 G p1.toInt p1 _ hT h_mu h_mv h_u0 h_u1 hph hy1 hy11 hR_101 hc (Or.inr rfl)) (cm_V 1 hts kc_X11_comesToEnd ki_RX11 kl_RX11_279 kv_X11_comesToEnd kx_X11_comesToEnd kd_X11_comesToEnd ⟨Nat.le_of_ble_eq_true rfl, Nat.le_of_ble_eq_true rfl⟩) (ty_preE (wr := []) (wc := ([(rf_MO mo mw ma mf m0 m1 mu mv u0 u1 iz th mb mn mpt mbg mwr mwk mlf men), (rf_RW ct 0 mw 958 f1_99)] ++ ws_108)) (ci := 11) (q0 := 0) hP hK hD hS hA hX rfl rfl) rfl rfl hl.1 rfl (lv_room (Nat.le_of_ble_eq_true rfl)) dX11_comes_166 ⟨Nat.le_of_ble_eq_true rfl, Nat.le_of_ble_eq_true rfl⟩) hP hD hS hA (fun u H locs hw_110 hP hD hS => ?_)
        obtain ⟨ws_111, f1_112⟩ := u
        obtain ⟨hT, hp_113⟩ := hw_110
        have hp_113 : rf_R G (-1) f1_112 := hp_113
        have hR_114 := hp_113
        have hP : va_P D vwCl ([(rf_MO mo mw ma mf m0 m1 mu mv u0 u1 iz th mb mn mpt mbg mwr mwk mlf men), (rf_RW ct 0 mw 958 f1_112)] ++ ws_111) H := hP
        have hD : va_D A ([(rf_MO mo mw ma mf m0 m1 mu mv u0 u1 iz th mb mn mpt mbg mwr mwk mlf men), (rf_RW ct 0 mw 958 f1_112)] ++ ws_111) := hD
        exact W.vret hx hb hr (fun t ht hW => ⟨⟨(ws_111, f1_112), rfl, ⟨hT, hR_114⟩, by rw [ht]; exact hP, by rw [hAe]; exact hD⟩, hS.F ht⟩) hS.2.2 dX11_comes_169
    · refine lv_aload_n hx hb dX11_comes_32 rfl (lv_at hl 0 rfl) ?_
      refine lv_iload_n hx hb dX11_comes_33 rfl (lv_at hl 1 rfl) ?_
      refine lv_bipush (v := 24) hx hb dX11_comes_34 (by decide) ?_
      refine lv_iload hx hb dX11_comes_36 (lv_at hl 4 rfl) ?_
      refine lv_iadd hx hb dX11_comes_38 ?_
      refine ty_ki (wr := []) (wc := ([(rf_MO mo mw ma mf m0 m1 mu mv u0 u1 iz th mb mn mpt mbg mwr mwk mlf men), (rf_RW ct 0 mw 958 f_5)] ++ ws_63)) (va_runV (As := [.int p1, .int (24 + y_4)]) (rest := []) ⟨hx, hb, hml, hown, hts⟩ (m_of_v l D ct S ws_63 ph xx mo mw ma mf m0 m1 mu mv u0 u1 iz mb th mn mpt mbg mwr mwk mlf men f_5 G cx p1 (24 + y_4) _ hT h_mu h_mv h_u0 h_u1 hph hy1 hR_10 hc (by have := rf_ty (y := y_4) (by have := (show 0 ≤ y_4.toInt ∧ y_4.toInt ≤ 11 from by have := (rf_ps hR_10 hpn).1.2; have := (show 0 ≤ y_4.toInt ∧ y_4.toInt < (G (96 + 37 * (rf_of f p1 1).toInt.toNat)).toInt from ⟨hex_10.1, by rw [← (rf_ps hR_10 hpn).2.1]; exact rf_ylt rfl hc_9⟩); omega); omega); have := (show 0 ≤ y_4.toInt ∧ y_4.toInt ≤ 11 from by have := (rf_ps hR_10 hpn).1.2; have := (show 0 ≤ y_4.toInt ∧ y_4.toInt < (G (96 + 37 * (rf_of f p1 1).toInt.toNat)).toInt from ⟨hex_10.1, by rw [← (rf_ps hR_10 hpn).2.1]; exact rf_ylt rfl hc_9⟩); omega); omega)) (cm_V 2 hts kc_X11_of ki_RX11 kl_RX11_209 kv_X11_of kx_X11_of kd_X11_of ⟨Nat.le_of_ble_eq_true rfl, Nat.le_of_ble_eq_true rfl⟩) (ty_preE (wr := []) (wc := ([(rf_MO mo mw ma mf m0 m1 mu mv u0 u1 iz th mb mn mpt mbg mwr mwk mlf men), (rf_RW ct 0 mw 958 f_5)] ++ ws_63)) (ci := 11) (q0 := 0) hP hK hD hS hA hX rfl rfl) rfl rfl hl.1 rfl (lv_room (Nat.le_of_ble_eq_true rfl)) dX11_comes_39 ⟨Nat.le_of_ble_eq_true rfl, Nat.le_of_ble_eq_true rfl⟩) hP hD hS hA (fun r_116 u H locs hw_117 hP hD hS => ?_)
      obtain ⟨ws_118, rfl⟩ : ∃ z, z = u := ⟨_, rfl⟩
      obtain ⟨hT, rfl⟩ := hw_117
      have hP : va_P D vwCl ([(rf_MO mo mw ma mf m0 m1 mu mv u0 u1 iz th mb mn mpt mbg mwr mwk mlf men), (rf_RW ct 0 mw 958 f_5)] ++ ws_118) H := hP
      have hD : va_D A ([(rf_MO mo mw ma mf m0 m1 mu mv u0 u1 iz th mb mn mpt mbg mwr mwk mlf men), (rf_RW ct 0 mw 958 f_5)] ++ ws_118) := hD
      refine lv_aload_n hx hb dX11_comes_42 rfl (lv_at hl 0 rfl) ?_
      refine lv_iload_n hx hb dX11_comes_43 rfl (lv_at hl 3 rfl) ?_
      refine lv_iload hx hb dX11_comes_44 (lv_at hl 4 rfl) ?_
      refine lv_iconst (v := 2) hx hb dX11_comes_46 (by decide) ?_
      refine ty_ki (wr := []) (wc := ([(rf_MO mo mw ma mf m0 m1 mu mv u0 u1 iz th mb mn mpt mbg mwr mwk mlf men), (rf_RW ct 0 mw 958 f_5)] ++ ws_118)) (va_runV (As := [.int (rf_of f p1 1), .int y_4, .int 2]) (rest := [.int (rf_of f_5 p1 (24 + y_4).toInt.toNat)]) ⟨hx, hb, hml, hown, hts⟩ (m_stepOf_2 l D ct S ws_118 ph xx mo mw ma mf m0 m1 mu mv u0 u1 iz mb th mn mpt mbg mwr mwk mlf men f_5 G cx (rf_of f p1 1) y_4 _ hT h_mu h_mv h_u0 h_u1 hph hy1 hR_10 (rf_p4 hR_10 hp) (by have := (show 0 ≤ y_4.toInt ∧ y_4.toInt < (G (96 + 37 * (rf_of f p1 1).toInt.toNat)).toInt from ⟨hex_10.1, by rw [← (rf_ps hR_10 hpn).2.1]; exact rf_ylt rfl hc_9⟩); have := (show 0 ≤ y_4.toInt ∧ y_4.toInt ≤ 11 from by have := (rf_ps hR_10 hpn).1.2; have := (show 0 ≤ y_4.toInt ∧ y_4.toInt < (G (96 + 37 * (rf_of f p1 1).toInt.toNat)).toInt from ⟨hex_10.1, by rw [← (rf_ps hR_10 hpn).2.1]; exact rf_ylt rfl hc_9⟩); omega); omega)) (cm_V 3 hts kc_X11_stepOf ki_RX11 kl_RX11_218 kv_X11_stepOf kx_X11_stepOf kd_X11_stepOf ⟨Nat.le_of_ble_eq_true rfl, Nat.le_of_ble_eq_true rfl⟩) (ty_preE (wr := []) (wc := ([(rf_MO mo mw ma mf m0 m1 mu mv u0 u1 iz th mb mn mpt mbg mwr mwk mlf men), (rf_RW ct 0 mw 958 f_5)] ++ ws_118)) (ci := 11) (q0 := 0) hP hK hD hS hA hX rfl rfl) rfl rfl hl.1 rfl (lv_room (Nat.le_of_ble_eq_true rfl)) dX11_comes_47 ⟨Nat.le_of_ble_eq_true rfl, Nat.le_of_ble_eq_true rfl⟩) hP hD hS hA (fun r_119 u H locs hw_120 hP hD hS => ?_)
      obtain ⟨ws_121, rfl⟩ : ∃ z, z = u := ⟨_, rfl⟩
      obtain ⟨hT, rfl⟩ := hw_120
      have hP : va_P D vwCl ([(rf_MO mo mw ma mf m0 m1 mu mv u0 u1 iz th mb mn mpt mbg mwr mwk mlf men), (rf_RW ct 0 mw 958 f_5)] ++ ws_121) H := hP
      have hD : va_D A ([(rf_MO mo mw ma mf m0 m1 mu mv u0 u1 iz th mb mn mpt mbg mwr mwk mlf men), (rf_RW ct 0 mw 958 f_5)] ++ ws_121) := hD
      refine lv_icmp_ge (tgt := 88) hx hb dX11_comes_50 (by decide) (fun hc_122 => ?_) (fun hc_122 => ?_)
      · refine lv_aload_n hx hb dX11_comes_88 rfl (lv_at hl 0 rfl) ?_
        refine lv_iload_n hx hb dX11_comes_89 rfl (lv_at hl 1 rfl) ?_
        refine lv_bipush (v := 24) hx hb dX11_comes_90 (by decide) ?_
        refine lv_iload hx hb dX11_comes_92 (lv_at hl 4 rfl) ?_
        refine lv_iadd hx hb dX11_comes_94 ?_
        refine lv_iconst (v := 0) hx hb dX11_comes_95 (by decide) ?_
        refine ty_kv (wr := []) (wc := ([(rf_MO mo mw ma mf m0 m1 mu mv u0 u1 iz th mb mn mpt mbg mwr mwk mlf men), (rf_RW ct 0 mw 958 f_5)] ++ ws_121)) (va_runV (As := [.int p1, .int (24 + y_4), .int 0]) (rest := []) ⟨hx, hb, hml, hown, hts⟩ (m_put_v l D ct S ws_121 ph xx mo mw ma mf m0 m1 mu mv u0 u1 iz mb th mn mpt mbg mwr mwk mlf men f_5 G cx p1 (24 + y_4) (0 : Int32) _ hT h_mu h_mv h_u0 h_u1 hph hy1 hR_10 hc (by have := rf_ty (y := y_4) (by have := (show 0 ≤ y_4.toInt ∧ y_4.toInt ≤ 11 from by have := (rf_ps hR_10 hpn).1.2; have := (show 0 ≤ y_4.toInt ∧ y_4.toInt < (G (96 + 37 * (rf_of f p1 1).toInt.toNat)).toInt from ⟨hex_10.1, by rw [← (rf_ps hR_10 hpn).2.1]; exact rf_ylt rfl hc_9⟩); omega); omega); have := (show 0 ≤ y_4.toInt ∧ y_4.toInt ≤ 11 from by have := (rf_ps hR_10 hpn).1.2; have := (show 0 ≤ y_4.toInt ∧ y_4.toInt < (G (96 + 37 * (rf_of f p1 1).toInt.toNat)).toInt from ⟨hex_10.1, by rw [← (rf_ps hR_10 hpn).2.1]; exact rf_ylt rfl hc_9⟩); omega); omega) (rf_kt (by have := rf_ty (y := y_4) (by have := (show 0 ≤ y_4.toInt ∧ y_4.toInt ≤ 11 from by have := (rf_ps hR_10 hpn).1.2; have := (show 0 ≤ y_4.toInt ∧ y_4.toInt < (G (96 + 37 * (rf_of f p1 1).toInt.toNat)).toInt from ⟨hex_10.1, by rw [← (rf_ps hR_10 hpn).2.1]; exact rf_ylt rfl hc_9⟩); omega); omega); have := (show 0 ≤ y_4.toInt ∧ y_4.toInt ≤ 11 from by have := (rf_ps hR_10 hpn).1.2; have := (show 0 ≤ y_4.toInt ∧ y_4.toInt < (G (96 + 37 * (rf_of f p1 1).toInt.toNat)).toInt from ⟨hex_10.1, by rw [← (rf_ps hR_10 hpn).2.1]; exact rf_ylt rfl hc_9⟩); omega); omega) (by decide))) (cm_V 3 hts kc_X11_put ki_RX11 kl_RX11_234 kv_X11_put kx_X11_put kd_X11_put ⟨Nat.le_of_ble_eq_true rfl, Nat.le_of_ble_eq_true rfl⟩) (ty_preE (wr := []) (wc := ([(rf_MO mo mw ma mf m0 m1 mu mv u0 u1 iz th mb mn mpt mbg mwr mwk mlf men), (rf_RW ct 0 mw 958 f_5)] ++ ws_121)) (ci := 11) (q0 := 0) hP hK hD hS hA hX rfl rfl) rfl rfl hl.1 rfl (lv_room (Nat.le_of_ble_eq_true rfl)) dX11_comes_96 ⟨Nat.le_of_ble_eq_true rfl, Nat.le_of_ble_eq_true rfl⟩) hP hD hS hA (fun u H locs hw_124 hP hD hS => ?_)
        obtain ⟨ws_125, f1_126⟩ := u
        obtain ⟨hT, hp_127⟩ := hw_124
        have hp_127 : rf_R G cx f1_126 ∧ rf_sm f_5 f1_126 ∧ f1_126 = upd f_5 (244 + 54 * p1.toInt.toNat + (24 + y_4).toInt.toNat) (0 : Int32) := hp_127
        have hR_128 := hp_127.1
        have hM_129 := rf_smt hM_10 hp_127.2.1
        have hP : va_P D vwCl ([(rf_MO mo mw ma mf m0 m1 mu mv u0 u1 iz th mb mn mpt mbg mwr mwk mlf men), (rf_RW ct 0 mw 958 f1_126)] ++ ws_125) H := hP
        have hD : va_D A ([(rf_MO mo mw ma mf m0 m1 mu mv u0 u1 iz th mb mn mpt mbg mwr mwk mlf men), (rf_RW ct 0 mw 958 f1_126)] ++ ws_125) := hD
        refine lv_iinc (v := (y_4 + Int32.ofInt 1)) (lv' := [(4, .int (y_4 + Int32.ofInt 1)), (0, .ref mo), (1, .int p1), (2, .int p2), (3, .int (rf_of f p1 1))]) hx hb dX11_comes_99 hl (k := 4) rfl rfl (by decide) rfl (fun ls hl => ?_)
        refine lv_goto (tgt := 10) hx hb dX11_comes_102 (by decide) ?_
        exact ih_10 _ _ _ _ (rf_cp hR_10 hc hpn (show 0 ≤ y_4.toInt ∧ y_4.toInt < (G (96 + 37 * (rf_of f p1 1).toInt.toNat)).toInt from ⟨hex_10.1, by rw [← (rf_ps hR_10 hpn).2.1]; exact rf_ylt rfl hc_9⟩) hc_122 hp_127.2.2).1 ⟨ws_125, (y_4 + Int32.ofInt 1), f1_126, rfl, hT, hP, hD, hS, (lv_sub hl [1, 2, 3, 4, 0] rfl), hR_128, hM_129, (rf_cp hR_10 hc hpn (show 0 ≤ y_4.toInt ∧ y_4.toInt < (G (96 + 37 * (rf_of f p1 1).toInt.toNat)).toInt from ⟨hex_10.1, by rw [← (rf_ps hR_10 hpn).2.1]; exact rf_ylt rfl hc_9⟩) hc_122 hp_127.2.2).2⟩
      · refine lv_aload_n hx hb dX11_comes_53 rfl (lv_at hl 0 rfl) ?_
        refine lv_iload_n hx hb dX11_comes_54 rfl (lv_at hl 1 rfl) ?_
        refine lv_bipush (v := 24) hx hb dX11_comes_55 (by decide) ?_
        refine lv_iload hx hb dX11_comes_57 (lv_at hl 4 rfl) ?_
        refine lv_iadd hx hb dX11_comes_59 ?_
        refine lv_aload_n hx hb dX11_comes_60 rfl (lv_at hl 0 rfl) ?_
        refine lv_iload_n hx hb dX11_comes_61 rfl (lv_at hl 1 rfl) ?_
        refine lv_bipush (v := 24) hx hb dX11_comes_62 (by decide) ?_
        refine lv_iload hx hb dX11_comes_64 (lv_at hl 4 rfl) ?_
        refine lv_iadd hx hb dX11_comes_66 ?_
        refine ty_ki (wr := []) (wc := ([(rf_MO mo mw ma mf m0 m1 mu mv u0 u1 iz th mb mn mpt mbg mwr mwk mlf men), (rf_RW ct 0 mw 958 f_5)] ++ ws_121)) (va_runV (As := [.int p1, .int (24 + y_4)]) (rest := [.int (24 + y_4), .int p1, .ref mo]) ⟨hx, hb, hml, hown, hts⟩ (m_of_v l D ct S ws_121 ph xx mo mw ma mf m0 m1 mu mv u0 u1 iz mb th mn mpt mbg mwr mwk mlf men f_5 G cx p1 (24 + y_4) _ hT h_mu h_mv h_u0 h_u1 hph hy1 hR_10 hc (by have := rf_ty (y := y_4) (by have := (show 0 ≤ y_4.toInt ∧ y_4.toInt ≤ 11 from by have := (rf_ps hR_10 hpn).1.2; have := (show 0 ≤ y_4.toInt ∧ y_4.toInt < (G (96 + 37 * (rf_of f p1 1).toInt.toNat)).toInt from ⟨hex_10.1, by rw [← (rf_ps hR_10 hpn).2.1]; exact rf_ylt rfl hc_9⟩); omega); omega); have := (show 0 ≤ y_4.toInt ∧ y_4.toInt ≤ 11 from by have := (rf_ps hR_10 hpn).1.2; have := (show 0 ≤ y_4.toInt ∧ y_4.toInt < (G (96 + 37 * (rf_of f p1 1).toInt.toNat)).toInt from ⟨hex_10.1, by rw [← (rf_ps hR_10 hpn).2.1]; exact rf_ylt rfl hc_9⟩); omega); omega)) (cm_V 2 hts kc_X11_of ki_RX11 kl_RX11_209 kv_X11_of kx_X11_of kd_X11_of ⟨Nat.le_of_ble_eq_true rfl, Nat.le_of_ble_eq_true rfl⟩) (ty_preE (wr := []) (wc := ([(rf_MO mo mw ma mf m0 m1 mu mv u0 u1 iz th mb mn mpt mbg mwr mwk mlf men), (rf_RW ct 0 mw 958 f_5)] ++ ws_121)) (ci := 11) (q0 := 0) hP hK hD hS hA hX rfl rfl) rfl rfl hl.1 rfl (lv_room (Nat.le_of_ble_eq_true rfl)) dX11_comes_67 ⟨Nat.le_of_ble_eq_true rfl, Nat.le_of_ble_eq_true rfl⟩) hP hD hS hA (fun r_130 u H locs hw_131 hP hD hS => ?_)
        obtain ⟨ws_132, rfl⟩ : ∃ z, z = u := ⟨_, rfl⟩
        obtain ⟨hT, rfl⟩ := hw_131
        have hP : va_P D vwCl ([(rf_MO mo mw ma mf m0 m1 mu mv u0 u1 iz th mb mn mpt mbg mwr mwk mlf men), (rf_RW ct 0 mw 958 f_5)] ++ ws_132) H := hP
        have hD : va_D A ([(rf_MO mo mw ma mf m0 m1 mu mv u0 u1 iz th mb mn mpt mbg mwr mwk mlf men), (rf_RW ct 0 mw 958 f_5)] ++ ws_132) := hD
        refine lv_iconst (v := 1) hx hb dX11_comes_70 (by decide) ?_
        refine lv_iadd hx hb dX11_comes_71 ?_
        refine ty_kv (wr := []) (wc := ([(rf_MO mo mw ma mf m0 m1 mu mv u0 u1 iz th mb mn mpt mbg mwr mwk mlf men), (rf_RW ct 0 mw 958 f_5)] ++ ws_132)) (va_runV (As := [.int p1, .int (24 + y_4), .int ((rf_of f_5 p1 (24 + y_4).toInt.toNat) + 1)]) (rest := []) ⟨hx, hb, hml, hown, hts⟩ (m_put_v l D ct S ws_132 ph xx mo mw ma mf m0 m1 mu mv u0 u1 iz mb th mn mpt mbg mwr mwk mlf men f_5 G cx p1 (24 + y_4) ((rf_of f_5 p1 (24 + y_4).toInt.toNat) + 1) _ hT h_mu h_mv h_u0 h_u1 hph hy1 hR_10 hc (by have := rf_ty (y := y_4) (by have := (show 0 ≤ y_4.toInt ∧ y_4.toInt ≤ 11 from by have := (rf_ps hR_10 hpn).1.2; have := (show 0 ≤ y_4.toInt ∧ y_4.toInt < (G (96 + 37 * (rf_of f p1 1).toInt.toNat)).toInt from ⟨hex_10.1, by rw [← (rf_ps hR_10 hpn).2.1]; exact rf_ylt rfl hc_9⟩); omega); omega); have := (show 0 ≤ y_4.toInt ∧ y_4.toInt ≤ 11 from by have := (rf_ps hR_10 hpn).1.2; have := (show 0 ≤ y_4.toInt ∧ y_4.toInt < (G (96 + 37 * (rf_of f p1 1).toInt.toNat)).toInt from ⟨hex_10.1, by rw [← (rf_ps hR_10 hpn).2.1]; exact rf_ylt rfl hc_9⟩); omega); omega) (rf_kt (by have := rf_ty (y := y_4) (by have := (show 0 ≤ y_4.toInt ∧ y_4.toInt ≤ 11 from by have := (rf_ps hR_10 hpn).1.2; have := (show 0 ≤ y_4.toInt ∧ y_4.toInt < (G (96 + 37 * (rf_of f p1 1).toInt.toNat)).toInt from ⟨hex_10.1, by rw [← (rf_ps hR_10 hpn).2.1]; exact rf_ylt rfl hc_9⟩); omega); omega); have := (show 0 ≤ y_4.toInt ∧ y_4.toInt ≤ 11 from by have := (rf_ps hR_10 hpn).1.2; have := (show 0 ≤ y_4.toInt ∧ y_4.toInt < (G (96 + 37 * (rf_of f p1 1).toInt.toNat)).toInt from ⟨hex_10.1, by rw [← (rf_ps hR_10 hpn).2.1]; exact rf_ylt rfl hc_9⟩); omega); omega) (rf_t1 hR_10 hc (by have := (show 0 ≤ y_4.toInt ∧ y_4.toInt < (G (96 + 37 * (rf_of f p1 1).toInt.toNat)).toInt from ⟨hex_10.1, by rw [← (rf_ps hR_10 hpn).2.1]; exact rf_ylt rfl hc_9⟩); have := (show 0 ≤ y_4.toInt ∧ y_4.toInt ≤ 11 from by have := (rf_ps hR_10 hpn).1.2; have := (show 0 ≤ y_4.toInt ∧ y_4.toInt < (G (96 + 37 * (rf_of f p1 1).toInt.toNat)).toInt from ⟨hex_10.1, by rw [← (rf_ps hR_10 hpn).2.1]; exact rf_ylt rfl hc_9⟩); omega); omega) (rf_sb hR_10 hpn (by have := (show 0 ≤ y_4.toInt ∧ y_4.toInt < (G (96 + 37 * (rf_of f p1 1).toInt.toNat)).toInt from ⟨hex_10.1, by rw [← (rf_ps hR_10 hpn).2.1]; exact rf_ylt rfl hc_9⟩); have := (show 0 ≤ y_4.toInt ∧ y_4.toInt ≤ 11 from by have := (rf_ps hR_10 hpn).1.2; have := (show 0 ≤ y_4.toInt ∧ y_4.toInt < (G (96 + 37 * (rf_of f p1 1).toInt.toNat)).toInt from ⟨hex_10.1, by rw [← (rf_ps hR_10 hpn).2.1]; exact rf_ylt rfl hc_9⟩); omega); omega) (by omega)) hc_122))) (cm_V 3 hts kc_X11_put ki_RX11 kl_RX11_234 kv_X11_put kx_X11_put kd_X11_put ⟨Nat.le_of_ble_eq_true rfl, Nat.le_of_ble_eq_true rfl⟩) (ty_preE (wr := []) (wc := ([(rf_MO mo mw ma mf m0 m1 mu mv u0 u1 iz th mb mn mpt mbg mwr mwk mlf men), (rf_RW ct 0 mw 958 f_5)] ++ ws_132)) (ci := 11) (q0 := 0) hP hK hD hS hA hX rfl rfl) rfl rfl hl.1 rfl (lv_room (Nat.le_of_ble_eq_true rfl)) dX11_comes_72 ⟨Nat.le_of_ble_eq_true rfl, Nat.le_of_ble_eq_true rfl⟩) hP hD hS hA (fun u H locs hw_134 hP hD hS => ?_)
        obtain ⟨ws_135, f1_136⟩ := u
        obtain ⟨hT, hp_137⟩ := hw_134
        have hp_137 : rf_R G cx f1_136 ∧ rf_sm f_5 f1_136 ∧ f1_136 = upd f_5 (244 + 54 * p1.toInt.toNat + (24 + y_4).toInt.toNat) ((rf_of f_5 p1 (24 + y_4).toInt.toNat) + 1) := hp_137
        have hR_138 := hp_137.1
        have hM_139 := rf_smt hM_10 hp_137.2.1
        have hP : va_P D vwCl ([(rf_MO mo mw ma mf m0 m1 mu mv u0 u1 iz th mb mn mpt mbg mwr mwk mlf men), (rf_RW ct 0 mw 958 f1_136)] ++ ws_135) H := hP
        have hD : va_D A ([(rf_MO mo mw ma mf m0 m1 mu mv u0 u1 iz th mb mn mpt mbg mwr mwk mlf men), (rf_RW ct 0 mw 958 f1_136)] ++ ws_135) := hD
        refine lv_aload_n hx hb dX11_comes_75 rfl (lv_at hl 0 rfl) ?_
        refine lv_iload_n hx hb dX11_comes_76 rfl (lv_at hl 3 rfl) ?_
        refine lv_iload hx hb dX11_comes_77 (lv_at hl 4 rfl) ?_
        refine lv_iconst (v := 1) hx hb dX11_comes_79 (by decide) ?_
        refine ty_ki (wr := []) (wc := ([(rf_MO mo mw ma mf m0 m1 mu mv u0 u1 iz th mb mn mpt mbg mwr mwk mlf men), (rf_RW ct 0 mw 958 f1_136)] ++ ws_135)) (va_runV (As := [.int (rf_of f p1 1), .int y_4, .int 1]) (rest := []) ⟨hx, hb, hml, hown, hts⟩ (m_stepOf_1 l D ct S ws_135 ph xx mo mw ma mf m0 m1 mu mv u0 u1 iz mb th mn mpt mbg mwr mwk mlf men f1_136 G cx (rf_of f p1 1) y_4 _ hT h_mu h_mv h_u0 h_u1 hph hy1 hR_138 (rf_p4 hR_138 hp) (by have := (show 0 ≤ y_4.toInt ∧ y_4.toInt < (G (96 + 37 * (rf_of f p1 1).toInt.toNat)).toInt from ⟨hex_10.1, by rw [← (rf_ps hR_10 hpn).2.1]; exact rf_ylt rfl hc_9⟩); have := (show 0 ≤ y_4.toInt ∧ y_4.toInt ≤ 11 from by have := (rf_ps hR_10 hpn).1.2; have := (show 0 ≤ y_4.toInt ∧ y_4.toInt < (G (96 + 37 * (rf_of f p1 1).toInt.toNat)).toInt from ⟨hex_10.1, by rw [← (rf_ps hR_10 hpn).2.1]; exact rf_ylt rfl hc_9⟩); omega); omega)) (cm_V 3 hts kc_X11_stepOf ki_RX11 kl_RX11_218 kv_X11_stepOf kx_X11_stepOf kd_X11_stepOf ⟨Nat.le_of_ble_eq_true rfl, Nat.le_of_ble_eq_true rfl⟩) (ty_preE (wr := []) (wc := ([(rf_MO mo mw ma mf m0 m1 mu mv u0 u1 iz th mb mn mpt mbg mwr mwk mlf men), (rf_RW ct 0 mw 958 f1_136)] ++ ws_135)) (ci := 11) (q0 := 0) hP hK hD hS hA hX rfl rfl) rfl rfl hl.1 rfl (lv_room (Nat.le_of_ble_eq_true rfl)) dX11_comes_80 ⟨Nat.le_of_ble_eq_true rfl, Nat.le_of_ble_eq_true rfl⟩) hP hD hS hA (fun r_140 u H locs hw_141 hP hD hS => ?_)
        obtain ⟨ws_142, rfl⟩ : ∃ z, z = u := ⟨_, rfl⟩
        obtain ⟨hT, rfl⟩ := hw_141
        have hP : va_P D vwCl ([(rf_MO mo mw ma mf m0 m1 mu mv u0 u1 iz th mb mn mpt mbg mwr mwk mlf men), (rf_RW ct 0 mw 958 f1_136)] ++ ws_142) H := hP
        have hD : va_D A ([(rf_MO mo mw ma mf m0 m1 mu mv u0 u1 iz th mb mn mpt mbg mwr mwk mlf men), (rf_RW ct 0 mw 958 f1_136)] ++ ws_142) := hD
        refine lv_istore (lv' := [(4, .int (f1_136 (97 + 37 * (rf_of f p1 1).toInt.toNat + 3 * y_4.toInt.toNat + 1))), (0, .ref mo), (1, .int p1), (2, .int p2), (3, .int (rf_of f p1 1))]) hx hb dX11_comes_83 hl (by decide) rfl (fun ls hl => ?_)
        refine lv_goto (tgt := 10) hx hb dX11_comes_85 (by decide) ?_
        exact ih_10 _ _ _ _ (rf_cb hR_10 hc hpn (show 0 ≤ y_4.toInt ∧ y_4.toInt < (G (96 + 37 * (rf_of f p1 1).toInt.toNat)).toInt from ⟨hex_10.1, by rw [← (rf_ps hR_10 hpn).2.1]; exact rf_ylt rfl hc_9⟩) hc_64 hc_122 hp_137.2.2 rfl).1 ⟨ws_142, (f1_136 (97 + 37 * (rf_of f p1 1).toInt.toNat + 3 * y_4.toInt.toNat + 1)), f1_136, rfl, hT, hP, hD, hS, (lv_sub hl [1, 2, 3, 4, 0] rfl), hR_138, hM_139, (rf_cb hR_10 hc hpn (show 0 ≤ y_4.toInt ∧ y_4.toInt < (G (96 + 37 * (rf_of f p1 1).toInt.toNat)).toInt from ⟨hex_10.1, by rw [← (rf_ps hR_10 hpn).2.1]; exact rf_ylt rfl hc_9⟩) hc_64 hc_122 hp_137.2.2 rfl).2⟩
