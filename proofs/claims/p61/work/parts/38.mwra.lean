theorem dX11_step_0 : decode cX11_step 0 = .ok (.aload_n 0, 1) := by decide +kernel
theorem dX11_step_1 : decode cX11_step 1 = .ok (.aload_n 0, 1) := by decide +kernel
theorem dX11_step_2 : decode cX11_step 2 = .ok (.iload_n 1, 1) := by decide +kernel
theorem dX11_step_3 : decode cX11_step 3 = .ok (.iconst 1, 1) := by decide +kernel
theorem dX11_step_4 : decode cX11_step 4 = .ok (.invokevirtual 209, 3) := by decide +kernel
theorem dX11_step_7 : decode cX11_step 7 = .ok (.aload_n 0, 1) := by decide +kernel
theorem dX11_step_8 : decode cX11_step 8 = .ok (.iload_n 1, 1) := by decide +kernel
theorem dX11_step_9 : decode cX11_step 9 = .ok (.iconst 2, 1) := by decide +kernel
theorem dX11_step_10 : decode cX11_step 10 = .ok (.invokevirtual 209, 3) := by decide +kernel
theorem dX11_step_13 : decode cX11_step 13 = .ok (.iload_n 2, 1) := by decide +kernel
theorem dX11_step_14 : decode cX11_step 14 = .ok (.invokevirtual 218, 3) := by decide +kernel
theorem dX11_step_17 : decode cX11_step 17 = .ok (.ireturn, 1) := by decide +kernel
set_option maxRecDepth 100000 in
set_option maxHeartbeats 4000000 in
theorem m_step_0 (l : Launch) (D : va_G) (ct : Nat → ClassId) (S : ty_S) (ws : va_W) (ph : va_W → Prop) (xx : Nat → Nat → Nat → Prop) (mo : Nat) (mw : Nat) (ma : Nat) (mf : Nat) (m0 : Nat) (m1 : Nat) (mu : Nat) (mv : Nat) (u0 : Nat) (u1 : Nat) (iz : Nat) (mb : Nat) (th : Int32) (mn : Int32) (mpt : Int32) (mbg : Int32) (mwr : Int32) (mwk : Int32) (mlf : Int32) (men : Int32) (f : Nat → Int32) (G : Nat → Int32) (cx : Int) (p1 : Int32) (sz : Nat) (hT : ty_V ct S ph ws) (h_mu : S mu = some (.inr (1, 42))) (h_mv : S mv = some (.inr (1, 42))) (h_u0 : S u0 = some (.inr (1, 42))) (h_u1 : S u1 = some (.inr (1, 42))) (hph : ty_C ph xx) (hy1 : ty_y1 xx) (hR : rf_R G cx f) (hc : 0 ≤ p1.toInt ∧ p1.toInt < (G 9).toInt) (ho : rf_on G f p1) : Met l yX11_step (ws_ yX11_step cX11_step 3 (some .int)) ({ frames := 1, cells := 0, slots := 0, locals := 23 } : Room) (va_Pc [.ref mo, .int p1, .int 0] (cmP D ct sz ([(rf_MO mo mw ma mf m0 m1 mu mv u0 u1 iz th mb mn mpt mbg mwr mwk mlf men), (rf_RW ct 0 mw 958 f)] ++ ws))) (va_Qi (fun (r : Int32) (u9 : va_W) => ty_V ct S ph u9 ∧ r = (rf_st3 f p1 0)) (cmB D ([(rf_MO mo mw ma mf m0 m1 mu mv u0 u1 iz th mb mn mpt mbg mwr mwk mlf men), (rf_RW ct 0 mw 958 f)] ++ ws) sz (fun (u9 : va_W) => ([(rf_MO mo mw ma mf m0 m1 mu mv u0 u1 iz th mb mn mpt mbg mwr mwk mlf men), (rf_RW ct 0 mw 958 f)] ++ u9))) (va_A ([(rf_MO mo mw ma mf m0 m1 mu mv u0 u1 iz th mb mn mpt mbg mwr mwk mlf men), (rf_RW ct 0 mw 958 f)] ++ ws) sz)) 0 0 (va_A ([(rf_MO mo mw ma mf m0 m1 mu mv u0 u1 iz th mb mn mpt mbg mwr mwk mlf men), (rf_RW ct 0 mw 958 f)] ++ ws) sz) := by
  refine Met.ofW (cc := cX11_step) (maxL := 3) (ret := (some .int)) (by decide) rfl ?_
  intro p e s m args below meth c s₁ B hml hv
  obtain ⟨rfl, hsz, hP, hK, hD0, hX⟩ := hv
  have hx := B.exec
  have hb := B.bytes
  have hr := B.returns
  have hts := ws_all (atoms_spec (ws := ws_ yX11_step cX11_step 3 (some .int)) B.pre)
  have hown : s.vm.findClass RX11 = some m.cls := findClass_of_methodNamed B.named
  have hlocks := B.notSynchronized
  subst hsz
  have hD := hD0.self (sz := s.heap.size)
  generalize hAe : va_A ([(rf_MO mo mw ma mf m0 m1 mu mv u0 u1 iz th mb mn mpt mbg mwr mwk mlf men), (rf_RW ct 0 mw 958 f)] ++ ws) s.heap.size = A at hD hX ⊢
  have hA : ∀ q : Nat, s.heap.size ≤ q → A q := fun q h => by rw [← hAe]; exact Or.inr h
  have hS : va_S A s.heap s.heap [] := va_S.rf
  have hl := lv_entry ([.ref mo, .int p1, .int 0]) (n := 3) (Nat.le_of_ble_eq_true rfl)
  rw [lg_entry_eq]
  generalize (lg_sl ([.ref mo, .int p1, .int 0]) ++ List.replicate (3 - (lg_sl ([.ref mo, .int p1, .int 0])).length) Slot.unset).toArray = ls at hl ⊢
  have hl : lv_has ls 3 [(0, .ref mo), (1, .int p1), (2, .int 0)] := hl
  refine lv_aload_n hx hb dX11_step_0 rfl (lv_at hl 0 rfl) ?_
  refine lv_aload_n hx hb dX11_step_1 rfl (lv_at hl 0 rfl) ?_
  refine lv_iload_n hx hb dX11_step_2 rfl (lv_at hl 1 rfl) ?_
  refine lv_iconst (v := 1) hx hb dX11_step_3 (by decide) ?_
  refine ty_ki (wr := []) (wc := ([(rf_MO mo mw ma mf m0 m1 mu mv u0 u1 iz th mb mn mpt mbg mwr mwk mlf men), (rf_RW ct 0 mw 958 f)] ++ ws)) (va_runV (As := [.int p1, .int 1]) (rest := [.ref mo]) ⟨hx, hb, hml, hown, hts⟩ (m_of_1 l D ct S ws ph xx mo mw ma mf m0 m1 mu mv u0 u1 iz mb th mn mpt mbg mwr mwk mlf men f G cx p1 _ hT h_mu h_mv h_u0 h_u1 hph hy1 hR hc) (cm_V 2 hts kc_X11_of ki_RX11 kl_RX11_209 kv_X11_of kx_X11_of kd_X11_of ⟨Nat.le_of_ble_eq_true rfl, Nat.le_of_ble_eq_true rfl⟩) (ty_preE (wr := []) (wc := ([(rf_MO mo mw ma mf m0 m1 mu mv u0 u1 iz th mb mn mpt mbg mwr mwk mlf men), (rf_RW ct 0 mw 958 f)] ++ ws)) (ci := 11) (q0 := 0) hP hK hD hS hA hX rfl rfl) rfl rfl hl.1 rfl (lv_room (Nat.le_of_ble_eq_true rfl)) dX11_step_4 ⟨Nat.le_of_ble_eq_true rfl, Nat.le_of_ble_eq_true rfl⟩) hP hD hS hA (fun r_1 u H locs hw_2 hP hD hS => ?_)
  obtain ⟨ws_3, rfl⟩ : ∃ z, z = u := ⟨_, rfl⟩
  obtain ⟨hT, rfl⟩ := hw_2
  have hP : va_P D vwCl ([(rf_MO mo mw ma mf m0 m1 mu mv u0 u1 iz th mb mn mpt mbg mwr mwk mlf men), (rf_RW ct 0 mw 958 f)] ++ ws_3) H := hP
  have hD : va_D A ([(rf_MO mo mw ma mf m0 m1 mu mv u0 u1 iz th mb mn mpt mbg mwr mwk mlf men), (rf_RW ct 0 mw 958 f)] ++ ws_3) := hD
  refine lv_aload_n hx hb dX11_step_7 rfl (lv_at hl 0 rfl) ?_
  refine lv_iload_n hx hb dX11_step_8 rfl (lv_at hl 1 rfl) ?_
  refine lv_iconst (v := 2) hx hb dX11_step_9 (by decide) ?_
  refine ty_ki (wr := []) (wc := ([(rf_MO mo mw ma mf m0 m1 mu mv u0 u1 iz th mb mn mpt mbg mwr mwk mlf men), (rf_RW ct 0 mw 958 f)] ++ ws_3)) (va_runV (As := [.int p1, .int 2]) (rest := [.int (rf_of f p1 1), .ref mo]) ⟨hx, hb, hml, hown, hts⟩ (m_of_2 l D ct S ws_3 ph xx mo mw ma mf m0 m1 mu mv u0 u1 iz mb th mn mpt mbg mwr mwk mlf men f G cx p1 _ hT h_mu h_mv h_u0 h_u1 hph hy1 hR hc) (cm_V 2 hts kc_X11_of ki_RX11 kl_RX11_209 kv_X11_of kx_X11_of kd_X11_of ⟨Nat.le_of_ble_eq_true rfl, Nat.le_of_ble_eq_true rfl⟩) (ty_preE (wr := []) (wc := ([(rf_MO mo mw ma mf m0 m1 mu mv u0 u1 iz th mb mn mpt mbg mwr mwk mlf men), (rf_RW ct 0 mw 958 f)] ++ ws_3)) (ci := 11) (q0 := 0) hP hK hD hS hA hX rfl rfl) rfl rfl hl.1 rfl (lv_room (Nat.le_of_ble_eq_true rfl)) dX11_step_10 ⟨Nat.le_of_ble_eq_true rfl, Nat.le_of_ble_eq_true rfl⟩) hP hD hS hA (fun r_4 u H locs hw_5 hP hD hS => ?_)
  obtain ⟨ws_6, rfl⟩ : ∃ z, z = u := ⟨_, rfl⟩
  obtain ⟨hT, rfl⟩ := hw_5
  have hP : va_P D vwCl ([(rf_MO mo mw ma mf m0 m1 mu mv u0 u1 iz th mb mn mpt mbg mwr mwk mlf men), (rf_RW ct 0 mw 958 f)] ++ ws_6) H := hP
  have hD : va_D A ([(rf_MO mo mw ma mf m0 m1 mu mv u0 u1 iz th mb mn mpt mbg mwr mwk mlf men), (rf_RW ct 0 mw 958 f)] ++ ws_6) := hD
  refine lv_iload_n hx hb dX11_step_13 rfl (lv_at hl 2 rfl) ?_
  refine ty_ki (wr := []) (wc := ([(rf_MO mo mw ma mf m0 m1 mu mv u0 u1 iz th mb mn mpt mbg mwr mwk mlf men), (rf_RW ct 0 mw 958 f)] ++ ws_6)) (va_runV (As := [.int (rf_of f p1 1), .int (rf_of f p1 2), .int 0]) (rest := []) ⟨hx, hb, hml, hown, hts⟩ (m_stepOf_0 l D ct S ws_6 ph xx mo mw ma mf m0 m1 mu mv u0 u1 iz mb th mn mpt mbg mwr mwk mlf men f G cx (rf_of f p1 1) (rf_of f p1 2) _ hT h_mu h_mv h_u0 h_u1 hph hy1 hR (rf_onp hR ho).1 (rf_onp hR ho).2) (cm_V 3 hts kc_X11_stepOf ki_RX11 kl_RX11_218 kv_X11_stepOf kx_X11_stepOf kd_X11_stepOf ⟨Nat.le_of_ble_eq_true rfl, Nat.le_of_ble_eq_true rfl⟩) (ty_preE (wr := []) (wc := ([(rf_MO mo mw ma mf m0 m1 mu mv u0 u1 iz th mb mn mpt mbg mwr mwk mlf men), (rf_RW ct 0 mw 958 f)] ++ ws_6)) (ci := 11) (q0 := 0) hP hK hD hS hA hX rfl rfl) rfl rfl hl.1 rfl (lv_room (Nat.le_of_ble_eq_true rfl)) dX11_step_14 ⟨Nat.le_of_ble_eq_true rfl, Nat.le_of_ble_eq_true rfl⟩) hP hD hS hA (fun r_7 u H locs hw_8 hP hD hS => ?_)
  obtain ⟨ws_9, rfl⟩ : ∃ z, z = u := ⟨_, rfl⟩
  obtain ⟨hT, rfl⟩ := hw_8
  have hP : va_P D vwCl ([(rf_MO mo mw ma mf m0 m1 mu mv u0 u1 iz th mb mn mpt mbg mwr mwk mlf men), (rf_RW ct 0 mw 958 f)] ++ ws_9) H := hP
  have hD : va_D A ([(rf_MO mo mw ma mf m0 m1 mu mv u0 u1 iz th mb mn mpt mbg mwr mwk mlf men), (rf_RW ct 0 mw 958 f)] ++ ws_9) := hD
  exact W.iret (v := (f (97 + 37 * (rf_of f p1 1).toInt.toNat + 3 * (rf_of f p1 2).toInt.toNat + 0))) hx hb hr (fun t ht hW => ⟨⟨(f (97 + 37 * (rf_of f p1 1).toInt.toNat + 3 * (rf_of f p1 2).toInt.toNat + 0)), ws_9, rfl, ⟨hT, rfl⟩, by rw [ht]; exact hP, by rw [hAe]; exact hD⟩, hS.F ht⟩) hS.2.2 dX11_step_17
set_option maxRecDepth 100000 in
set_option maxHeartbeats 4000000 in
theorem m_step_1 (l : Launch) (D : va_G) (ct : Nat → ClassId) (S : ty_S) (ws : va_W) (ph : va_W → Prop) (xx : Nat → Nat → Nat → Prop) (mo : Nat) (mw : Nat) (ma : Nat) (mf : Nat) (m0 : Nat) (m1 : Nat) (mu : Nat) (mv : Nat) (u0 : Nat) (u1 : Nat) (iz : Nat) (mb : Nat) (th : Int32) (mn : Int32) (mpt : Int32) (mbg : Int32) (mwr : Int32) (mwk : Int32) (mlf : Int32) (men : Int32) (f : Nat → Int32) (G : Nat → Int32) (cx : Int) (p1 : Int32) (sz : Nat) (hT : ty_V ct S ph ws) (h_mu : S mu = some (.inr (1, 42))) (h_mv : S mv = some (.inr (1, 42))) (h_u0 : S u0 = some (.inr (1, 42))) (h_u1 : S u1 = some (.inr (1, 42))) (hph : ty_C ph xx) (hy1 : ty_y1 xx) (hR : rf_R G cx f) (hc : 0 ≤ p1.toInt ∧ p1.toInt < (G 9).toInt) (ho : rf_on G f p1) : Met l yX11_step (ws_ yX11_step cX11_step 3 (some .int)) ({ frames := 1, cells := 0, slots := 0, locals := 23 } : Room) (va_Pc [.ref mo, .int p1, .int 1] (cmP D ct sz ([(rf_MO mo mw ma mf m0 m1 mu mv u0 u1 iz th mb mn mpt mbg mwr mwk mlf men), (rf_RW ct 0 mw 958 f)] ++ ws))) (va_Qi (fun (r : Int32) (u9 : va_W) => ty_V ct S ph u9 ∧ r = (rf_st3 f p1 1)) (cmB D ([(rf_MO mo mw ma mf m0 m1 mu mv u0 u1 iz th mb mn mpt mbg mwr mwk mlf men), (rf_RW ct 0 mw 958 f)] ++ ws) sz (fun (u9 : va_W) => ([(rf_MO mo mw ma mf m0 m1 mu mv u0 u1 iz th mb mn mpt mbg mwr mwk mlf men), (rf_RW ct 0 mw 958 f)] ++ u9))) (va_A ([(rf_MO mo mw ma mf m0 m1 mu mv u0 u1 iz th mb mn mpt mbg mwr mwk mlf men), (rf_RW ct 0 mw 958 f)] ++ ws) sz)) 0 0 (va_A ([(rf_MO mo mw ma mf m0 m1 mu mv u0 u1 iz th mb mn mpt mbg mwr mwk mlf men), (rf_RW ct 0 mw 958 f)] ++ ws) sz) := by
  refine Met.ofW (cc := cX11_step) (maxL := 3) (ret := (some .int)) (by decide) rfl ?_
  intro p e s m args below meth c s₁ B hml hv
  obtain ⟨rfl, hsz, hP, hK, hD0, hX⟩ := hv
  have hx := B.exec
  have hb := B.bytes
  have hr := B.returns
  have hts := ws_all (atoms_spec (ws := ws_ yX11_step cX11_step 3 (some .int)) B.pre)
  have hown : s.vm.findClass RX11 = some m.cls := findClass_of_methodNamed B.named
  have hlocks := B.notSynchronized
  subst hsz
  have hD := hD0.self (sz := s.heap.size)
  generalize hAe : va_A ([(rf_MO mo mw ma mf m0 m1 mu mv u0 u1 iz th mb mn mpt mbg mwr mwk mlf men), (rf_RW ct 0 mw 958 f)] ++ ws) s.heap.size = A at hD hX ⊢
  have hA : ∀ q : Nat, s.heap.size ≤ q → A q := fun q h => by rw [← hAe]; exact Or.inr h
  have hS : va_S A s.heap s.heap [] := va_S.rf
  have hl := lv_entry ([.ref mo, .int p1, .int 1]) (n := 3) (Nat.le_of_ble_eq_true rfl)
  rw [lg_entry_eq]
  generalize (lg_sl ([.ref mo, .int p1, .int 1]) ++ List.replicate (3 - (lg_sl ([.ref mo, .int p1, .int 1])).length) Slot.unset).toArray = ls at hl ⊢
  have hl : lv_has ls 3 [(0, .ref mo), (1, .int p1), (2, .int 1)] := hl
  refine lv_aload_n hx hb dX11_step_0 rfl (lv_at hl 0 rfl) ?_
  refine lv_aload_n hx hb dX11_step_1 rfl (lv_at hl 0 rfl) ?_
  refine lv_iload_n hx hb dX11_step_2 rfl (lv_at hl 1 rfl) ?_
  refine lv_iconst (v := 1) hx hb dX11_step_3 (by decide) ?_
  refine ty_ki (wr := []) (wc := ([(rf_MO mo mw ma mf m0 m1 mu mv u0 u1 iz th mb mn mpt mbg mwr mwk mlf men), (rf_RW ct 0 mw 958 f)] ++ ws)) (va_runV (As := [.int p1, .int 1]) (rest := [.ref mo]) ⟨hx, hb, hml, hown, hts⟩ (m_of_1 l D ct S ws ph xx mo mw ma mf m0 m1 mu mv u0 u1 iz mb th mn mpt mbg mwr mwk mlf men f G cx p1 _ hT h_mu h_mv h_u0 h_u1 hph hy1 hR hc) (cm_V 2 hts kc_X11_of ki_RX11 kl_RX11_209 kv_X11_of kx_X11_of kd_X11_of ⟨Nat.le_of_ble_eq_true rfl, Nat.le_of_ble_eq_true rfl⟩) (ty_preE (wr := []) (wc := ([(rf_MO mo mw ma mf m0 m1 mu mv u0 u1 iz th mb mn mpt mbg mwr mwk mlf men), (rf_RW ct 0 mw 958 f)] ++ ws)) (ci := 11) (q0 := 0) hP hK hD hS hA hX rfl rfl) rfl rfl hl.1 rfl (lv_room (Nat.le_of_ble_eq_true rfl)) dX11_step_4 ⟨Nat.le_of_ble_eq_true rfl, Nat.le_of_ble_eq_true rfl⟩) hP hD hS hA (fun r_1 u H locs hw_2 hP hD hS => ?_)
  obtain ⟨ws_3, rfl⟩ : ∃ z, z = u := ⟨_, rfl⟩
  obtain ⟨hT, rfl⟩ := hw_2
  have hP : va_P D vwCl ([(rf_MO mo mw ma mf m0 m1 mu mv u0 u1 iz th mb mn mpt mbg mwr mwk mlf men), (rf_RW ct 0 mw 958 f)] ++ ws_3) H := hP
  have hD : va_D A ([(rf_MO mo mw ma mf m0 m1 mu mv u0 u1 iz th mb mn mpt mbg mwr mwk mlf men), (rf_RW ct 0 mw 958 f)] ++ ws_3) := hD
  refine lv_aload_n hx hb dX11_step_7 rfl (lv_at hl 0 rfl) ?_
  refine lv_iload_n hx hb dX11_step_8 rfl (lv_at hl 1 rfl) ?_
  refine lv_iconst (v := 2) hx hb dX11_step_9 (by decide) ?_
  refine ty_ki (wr := []) (wc := ([(rf_MO mo mw ma mf m0 m1 mu mv u0 u1 iz th mb mn mpt mbg mwr mwk mlf men), (rf_RW ct 0 mw 958 f)] ++ ws_3)) (va_runV (As := [.int p1, .int 2]) (rest := [.int (rf_of f p1 1), .ref mo]) ⟨hx, hb, hml, hown, hts⟩ (m_of_2 l D ct S ws_3 ph xx mo mw ma mf m0 m1 mu mv u0 u1 iz mb th mn mpt mbg mwr mwk mlf men f G cx p1 _ hT h_mu h_mv h_u0 h_u1 hph hy1 hR hc) (cm_V 2 hts kc_X11_of ki_RX11 kl_RX11_209 kv_X11_of kx_X11_of kd_X11_of ⟨Nat.le_of_ble_eq_true rfl, Nat.le_of_ble_eq_true rfl⟩) (ty_preE (wr := []) (wc := ([(rf_MO mo mw ma mf m0 m1 mu mv u0 u1 iz th mb mn mpt mbg mwr mwk mlf men), (rf_RW ct 0 mw 958 f)] ++ ws_3)) (ci := 11) (q0 := 0) hP hK hD hS hA hX rfl rfl) rfl rfl hl.1 rfl (lv_room (Nat.le_of_ble_eq_true rfl)) dX11_step_10 ⟨Nat.le_of_ble_eq_true rfl, Nat.le_of_ble_eq_true rfl⟩) hP hD hS hA (fun r_4 u H locs hw_5 hP hD hS => ?_)
  obtain ⟨ws_6, rfl⟩ : ∃ z, z = u := ⟨_, rfl⟩
  obtain ⟨hT, rfl⟩ := hw_5
  have hP : va_P D vwCl ([(rf_MO mo mw ma mf m0 m1 mu mv u0 u1 iz th mb mn mpt mbg mwr mwk mlf men), (rf_RW ct 0 mw 958 f)] ++ ws_6) H := hP
  have hD : va_D A ([(rf_MO mo mw ma mf m0 m1 mu mv u0 u1 iz th mb mn mpt mbg mwr mwk mlf men), (rf_RW ct 0 mw 958 f)] ++ ws_6) := hD
  refine lv_iload_n hx hb dX11_step_13 rfl (lv_at hl 2 rfl) ?_
  refine ty_ki (wr := []) (wc := ([(rf_MO mo mw ma mf m0 m1 mu mv u0 u1 iz th mb mn mpt mbg mwr mwk mlf men), (rf_RW ct 0 mw 958 f)] ++ ws_6)) (va_runV (As := [.int (rf_of f p1 1), .int (rf_of f p1 2), .int 1]) (rest := []) ⟨hx, hb, hml, hown, hts⟩ (m_stepOf_1 l D ct S ws_6 ph xx mo mw ma mf m0 m1 mu mv u0 u1 iz mb th mn mpt mbg mwr mwk mlf men f G cx (rf_of f p1 1) (rf_of f p1 2) _ hT h_mu h_mv h_u0 h_u1 hph hy1 hR (rf_onp hR ho).1 (rf_onp hR ho).2) (cm_V 3 hts kc_X11_stepOf ki_RX11 kl_RX11_218 kv_X11_stepOf kx_X11_stepOf kd_X11_stepOf ⟨Nat.le_of_ble_eq_true rfl, Nat.le_of_ble_eq_true rfl⟩) (ty_preE (wr := []) (wc := ([(rf_MO mo mw ma mf m0 m1 mu mv u0 u1 iz th mb mn mpt mbg mwr mwk mlf men), (rf_RW ct 0 mw 958 f)] ++ ws_6)) (ci := 11) (q0 := 0) hP hK hD hS hA hX rfl rfl) rfl rfl hl.1 rfl (lv_room (Nat.le_of_ble_eq_true rfl)) dX11_step_14 ⟨Nat.le_of_ble_eq_true rfl, Nat.le_of_ble_eq_true rfl⟩) hP hD hS hA (fun r_7 u H locs hw_8 hP hD hS => ?_)
  obtain ⟨ws_9, rfl⟩ : ∃ z, z = u := ⟨_, rfl⟩
  obtain ⟨hT, rfl⟩ := hw_8
  have hP : va_P D vwCl ([(rf_MO mo mw ma mf m0 m1 mu mv u0 u1 iz th mb mn mpt mbg mwr mwk mlf men), (rf_RW ct 0 mw 958 f)] ++ ws_9) H := hP
  have hD : va_D A ([(rf_MO mo mw ma mf m0 m1 mu mv u0 u1 iz th mb mn mpt mbg mwr mwk mlf men), (rf_RW ct 0 mw 958 f)] ++ ws_9) := hD
  exact W.iret (v := (f (97 + 37 * (rf_of f p1 1).toInt.toNat + 3 * (rf_of f p1 2).toInt.toNat + 1))) hx hb hr (fun t ht hW => ⟨⟨(f (97 + 37 * (rf_of f p1 1).toInt.toNat + 3 * (rf_of f p1 2).toInt.toNat + 1)), ws_9, rfl, ⟨hT, rfl⟩, by rw [ht]; exact hP, by rw [hAe]; exact hD⟩, hS.F ht⟩) hS.2.2 dX11_step_17
set_option maxRecDepth 100000 in
set_option maxHeartbeats 4000000 in
theorem m_step_2 (l : Launch) (D : va_G) (ct : Nat → ClassId) (S : ty_S) (ws : va_W) (ph : va_W → Prop) (xx : Nat → Nat → Nat → Prop) (mo : Nat) (mw : Nat) (ma : Nat) (mf : Nat) (m0 : Nat) (m1 : Nat) (mu : Nat) (mv : Nat) (u0 : Nat) (u1 : Nat) (iz : Nat) (mb : Nat) (th : Int32) (mn : Int32) (mpt : Int32) (mbg : Int32) (mwr : Int32) (mwk : Int32) (mlf : Int32) (men : Int32) (f : Nat → Int32) (G : Nat → Int32) (cx : Int) (p1 : Int32) (sz : Nat) (hT : ty_V ct S ph ws) (h_mu : S mu = some (.inr (1, 42))) (h_mv : S mv = some (.inr (1, 42))) (h_u0 : S u0 = some (.inr (1, 42))) (h_u1 : S u1 = some (.inr (1, 42))) (hph : ty_C ph xx) (hy1 : ty_y1 xx) (hR : rf_R G cx f) (hc : 0 ≤ p1.toInt ∧ p1.toInt < (G 9).toInt) (ho : rf_on G f p1) : Met l yX11_step (ws_ yX11_step cX11_step 3 (some .int)) ({ frames := 1, cells := 0, slots := 0, locals := 23 } : Room) (va_Pc [.ref mo, .int p1, .int 2] (cmP D ct sz ([(rf_MO mo mw ma mf m0 m1 mu mv u0 u1 iz th mb mn mpt mbg mwr mwk mlf men), (rf_RW ct 0 mw 958 f)] ++ ws))) (va_Qi (fun (r : Int32) (u9 : va_W) => ty_V ct S ph u9 ∧ r = (rf_st3 f p1 2)) (cmB D ([(rf_MO mo mw ma mf m0 m1 mu mv u0 u1 iz th mb mn mpt mbg mwr mwk mlf men), (rf_RW ct 0 mw 958 f)] ++ ws) sz (fun (u9 : va_W) => ([(rf_MO mo mw ma mf m0 m1 mu mv u0 u1 iz th mb mn mpt mbg mwr mwk mlf men), (rf_RW ct 0 mw 958 f)] ++ u9))) (va_A ([(rf_MO mo mw ma mf m0 m1 mu mv u0 u1 iz th mb mn mpt mbg mwr mwk mlf men), (rf_RW ct 0 mw 958 f)] ++ ws) sz)) 0 0 (va_A ([(rf_MO mo mw ma mf m0 m1 mu mv u0 u1 iz th mb mn mpt mbg mwr mwk mlf men), (rf_RW ct 0 mw 958 f)] ++ ws) sz) := by
  refine Met.ofW (cc := cX11_step) (maxL := 3) (ret := (some .int)) (by decide) rfl ?_
  intro p e s m args below meth c s₁ B hml hv
  obtain ⟨rfl, hsz, hP, hK, hD0, hX⟩ := hv
  have hx := B.exec
  have hb := B.bytes
  have hr := B.returns
  have hts := ws_all (atoms_spec (ws := ws_ yX11_step cX11_step 3 (some .int)) B.pre)
  have hown : s.vm.findClass RX11 = some m.cls := findClass_of_methodNamed B.named
  have hlocks := B.notSynchronized
  subst hsz
  have hD := hD0.self (sz := s.heap.size)
  generalize hAe : va_A ([(rf_MO mo mw ma mf m0 m1 mu mv u0 u1 iz th mb mn mpt mbg mwr mwk mlf men), (rf_RW ct 0 mw 958 f)] ++ ws) s.heap.size = A at hD hX ⊢
  have hA : ∀ q : Nat, s.heap.size ≤ q → A q := fun q h => by rw [← hAe]; exact Or.inr h
  have hS : va_S A s.heap s.heap [] := va_S.rf
  have hl := lv_entry ([.ref mo, .int p1, .int 2]) (n := 3) (Nat.le_of_ble_eq_true rfl)
  rw [lg_entry_eq]
  generalize (lg_sl ([.ref mo, .int p1, .int 2]) ++ List.replicate (3 - (lg_sl ([.ref mo, .int p1, .int 2])).length) Slot.unset).toArray = ls at hl ⊢
  have hl : lv_has ls 3 [(0, .ref mo), (1, .int p1), (2, .int 2)] := hl
  refine lv_aload_n hx hb dX11_step_0 rfl (lv_at hl 0 rfl) ?_
  refine lv_aload_n hx hb dX11_step_1 rfl (lv_at hl 0 rfl) ?_
  refine lv_iload_n hx hb dX11_step_2 rfl (lv_at hl 1 rfl) ?_
  refine lv_iconst (v := 1) hx hb dX11_step_3 (by decide) ?_
  refine ty_ki (wr := []) (wc := ([(rf_MO mo mw ma mf m0 m1 mu mv u0 u1 iz th mb mn mpt mbg mwr mwk mlf men), (rf_RW ct 0 mw 958 f)] ++ ws)) (va_runV (As := [.int p1, .int 1]) (rest := [.ref mo]) ⟨hx, hb, hml, hown, hts⟩ (m_of_1 l D ct S ws ph xx mo mw ma mf m0 m1 mu mv u0 u1 iz mb th mn mpt mbg mwr mwk mlf men f G cx p1 _ hT h_mu h_mv h_u0 h_u1 hph hy1 hR hc) (cm_V 2 hts kc_X11_of ki_RX11 kl_RX11_209 kv_X11_of kx_X11_of kd_X11_of ⟨Nat.le_of_ble_eq_true rfl, Nat.le_of_ble_eq_true rfl⟩) (ty_preE (wr := []) (wc := ([(rf_MO mo mw ma mf m0 m1 mu mv u0 u1 iz th mb mn mpt mbg mwr mwk mlf men), (rf_RW ct 0 mw 958 f)] ++ ws)) (ci := 11) (q0 := 0) hP hK hD hS hA hX rfl rfl) rfl rfl hl.1 rfl (lv_room (Nat.le_of_ble_eq_true rfl)) dX11_step_4 ⟨Nat.le_of_ble_eq_true rfl, Nat.le_of_ble_eq_true rfl⟩) hP hD hS hA (fun r_1 u H locs hw_2 hP hD hS => ?_)
  obtain ⟨ws_3, rfl⟩ : ∃ z, z = u := ⟨_, rfl⟩
  obtain ⟨hT, rfl⟩ := hw_2
  have hP : va_P D vwCl ([(rf_MO mo mw ma mf m0 m1 mu mv u0 u1 iz th mb mn mpt mbg mwr mwk mlf men), (rf_RW ct 0 mw 958 f)] ++ ws_3) H := hP
  have hD : va_D A ([(rf_MO mo mw ma mf m0 m1 mu mv u0 u1 iz th mb mn mpt mbg mwr mwk mlf men), (rf_RW ct 0 mw 958 f)] ++ ws_3) := hD
  refine lv_aload_n hx hb dX11_step_7 rfl (lv_at hl 0 rfl) ?_
  refine lv_iload_n hx hb dX11_step_8 rfl (lv_at hl 1 rfl) ?_
  refine lv_iconst (v := 2) hx hb dX11_step_9 (by decide) ?_
  refine ty_ki (wr := []) (wc := ([(rf_MO mo mw ma mf m0 m1 mu mv u0 u1 iz th mb mn mpt mbg mwr mwk mlf men), (rf_RW ct 0 mw 958 f)] ++ ws_3)) (va_runV (As := [.int p1, .int 2]) (rest := [.int (rf_of f p1 1), .ref mo]) ⟨hx, hb, hml, hown, hts⟩ (m_of_2 l D ct S ws_3 ph xx mo mw ma mf m0 m1 mu mv u0 u1 iz mb th mn mpt mbg mwr mwk mlf men f G cx p1 _ hT h_mu h_mv h_u0 h_u1 hph hy1 hR hc) (cm_V 2 hts kc_X11_of ki_RX11 kl_RX11_209 kv_X11_of kx_X11_of kd_X11_of ⟨Nat.le_of_ble_eq_true rfl, Nat.le_of_ble_eq_true rfl⟩) (ty_preE (wr := []) (wc := ([(rf_MO mo mw ma mf m0 m1 mu mv u0 u1 iz th mb mn mpt mbg mwr mwk mlf men), (rf_RW ct 0 mw 958 f)] ++ ws_3)) (ci := 11) (q0 := 0) hP hK hD hS hA hX rfl rfl) rfl rfl hl.1 rfl (lv_room (Nat.le_of_ble_eq_true rfl)) dX11_step_10 ⟨Nat.le_of_ble_eq_true rfl, Nat.le_of_ble_eq_true rfl⟩) hP hD hS hA (fun r_4 u H locs hw_5 hP hD hS => ?_)
  obtain ⟨ws_6, rfl⟩ : ∃ z, z = u := ⟨_, rfl⟩
  obtain ⟨hT, rfl⟩ := hw_5
  have hP : va_P D vwCl ([(rf_MO mo mw ma mf m0 m1 mu mv u0 u1 iz th mb mn mpt mbg mwr mwk mlf men), (rf_RW ct 0 mw 958 f)] ++ ws_6) H := hP
  have hD : va_D A ([(rf_MO mo mw ma mf m0 m1 mu mv u0 u1 iz th mb mn mpt mbg mwr mwk mlf men), (rf_RW ct 0 mw 958 f)] ++ ws_6) := hD
  refine lv_iload_n hx hb dX11_step_13 rfl (lv_at hl 2 rfl) ?_
  refine ty_ki (wr := []) (wc := ([(rf_MO mo mw ma mf m0 m1 mu mv u0 u1 iz th mb mn mpt mbg mwr mwk mlf men), (rf_RW ct 0 mw 958 f)] ++ ws_6)) (va_runV (As := [.int (rf_of f p1 1), .int (rf_of f p1 2), .int 2]) (rest := []) ⟨hx, hb, hml, hown, hts⟩ (m_stepOf_2 l D ct S ws_6 ph xx mo mw ma mf m0 m1 mu mv u0 u1 iz mb th mn mpt mbg mwr mwk mlf men f G cx (rf_of f p1 1) (rf_of f p1 2) _ hT h_mu h_mv h_u0 h_u1 hph hy1 hR (rf_onp hR ho).1 (rf_onp hR ho).2) (cm_V 3 hts kc_X11_stepOf ki_RX11 kl_RX11_218 kv_X11_stepOf kx_X11_stepOf kd_X11_stepOf ⟨Nat.le_of_ble_eq_true rfl, Nat.le_of_ble_eq_true rfl⟩) (ty_preE (wr := []) (wc := ([(rf_MO mo mw ma mf m0 m1 mu mv u0 u1 iz th mb mn mpt mbg mwr mwk mlf men), (rf_RW ct 0 mw 958 f)] ++ ws_6)) (ci := 11) (q0 := 0) hP hK hD hS hA hX rfl rfl) rfl rfl hl.1 rfl (lv_room (Nat.le_of_ble_eq_true rfl)) dX11_step_14 ⟨Nat.le_of_ble_eq_true rfl, Nat.le_of_ble_eq_true rfl⟩) hP hD hS hA (fun r_7 u H locs hw_8 hP hD hS => ?_)
  obtain ⟨ws_9, rfl⟩ : ∃ z, z = u := ⟨_, rfl⟩
  obtain ⟨hT, rfl⟩ := hw_8
  have hP : va_P D vwCl ([(rf_MO mo mw ma mf m0 m1 mu mv u0 u1 iz th mb mn mpt mbg mwr mwk mlf men), (rf_RW ct 0 mw 958 f)] ++ ws_9) H := hP
  have hD : va_D A ([(rf_MO mo mw ma mf m0 m1 mu mv u0 u1 iz th mb mn mpt mbg mwr mwk mlf men), (rf_RW ct 0 mw 958 f)] ++ ws_9) := hD
  exact W.iret (v := (f (97 + 37 * (rf_of f p1 1).toInt.toNat + 3 * (rf_of f p1 2).toInt.toNat + 2))) hx hb hr (fun t ht hW => ⟨⟨(f (97 + 37 * (rf_of f p1 1).toInt.toNat + 3 * (rf_of f p1 2).toInt.toNat + 2)), ws_9, rfl, ⟨hT, rfl⟩, by rw [ht]; exact hP, by rw [hAe]; exact hD⟩, hS.F ht⟩) hS.2.2 dX11_step_17
theorem dX11_restAt_0 : decode cX11_restAt 0 = .ok (.aload_n 0, 1) := by decide +kernel
theorem dX11_restAt_1 : decode cX11_restAt 1 = .ok (.iload_n 1, 1) := by decide +kernel
theorem dX11_restAt_2 : decode cX11_restAt 2 = .ok (.bipush 11, 2) := by decide +kernel
theorem dX11_restAt_4 : decode cX11_restAt 4 = .ok (.invokevirtual 209, 3) := by decide +kernel
theorem dX11_restAt_7 : decode cX11_restAt 7 = .ok (.istore_n 3, 1) := by decide +kernel
theorem dX11_restAt_8 : decode cX11_restAt 8 = .ok (.aload_n 0, 1) := by decide +kernel
theorem dX11_restAt_9 : decode cX11_restAt 9 = .ok (.iload_n 3, 1) := by decide +kernel
theorem dX11_restAt_10 : decode cX11_restAt 10 = .ok (.invokevirtual 212, 3) := by decide +kernel
theorem dX11_restAt_13 : decode cX11_restAt 13 = .ok (.iconst 1, 1) := by decide +kernel
theorem dX11_restAt_14 : decode cX11_restAt 14 = .ok (.isub, 1) := by decide +kernel
theorem dX11_restAt_15 : decode cX11_restAt 15 = .ok (.istore 4, 2) := by decide +kernel
theorem dX11_restAt_17 : decode cX11_restAt 17 = .ok (.aload_n 0, 1) := by decide +kernel
theorem dX11_restAt_18 : decode cX11_restAt 18 = .ok (.iload_n 1, 1) := by decide +kernel
theorem dX11_restAt_19 : decode cX11_restAt 19 = .ok (.bipush 7, 2) := by decide +kernel
theorem dX11_restAt_21 : decode cX11_restAt 21 = .ok (.invokevirtual 209, 3) := by decide +kernel
theorem dX11_restAt_24 : decode cX11_restAt 24 = .ok (.i2l, 1) := by decide +kernel
theorem dX11_restAt_25 : decode cX11_restAt 25 = .ok (.lstore 5, 2) := by decide +kernel
theorem dX11_restAt_27 : decode cX11_restAt 27 = .ok (.iload_n 2, 1) := by decide +kernel
theorem dX11_restAt_28 : decode cX11_restAt 28 = .ok (.i2l, 1) := by decide +kernel
theorem dX11_restAt_29 : decode cX11_restAt 29 = .ok (.iload 4, 2) := by decide +kernel
theorem dX11_restAt_31 : decode cX11_restAt 31 = .ok (.i2l, 1) := by decide +kernel
theorem dX11_restAt_32 : decode cX11_restAt 32 = .ok (.lmul, 1) := by decide +kernel
theorem dX11_restAt_33 : decode cX11_restAt 33 = .ok (.lstore 7, 2) := by decide +kernel
theorem dX11_restAt_35 : decode cX11_restAt 35 = .ok (.lload 7, 2) := by decide +kernel
theorem dX11_restAt_37 : decode cX11_restAt 37 = .ok (.lload 5, 2) := by decide +kernel
theorem dX11_restAt_39 : decode cX11_restAt 39 = .ok (.ldiv, 1) := by decide +kernel
theorem dX11_restAt_40 : decode cX11_restAt 40 = .ok (.iload 4, 2) := by decide +kernel
theorem dX11_restAt_42 : decode cX11_restAt 42 = .ok (.iconst 1, 1) := by decide +kernel
theorem dX11_restAt_43 : decode cX11_restAt 43 = .ok (.isub, 1) := by decide +kernel
theorem dX11_restAt_44 : decode cX11_restAt 44 = .ok (.i2l, 1) := by decide +kernel
theorem dX11_restAt_45 : decode cX11_restAt 45 = .ok (.invokestatic 119, 3) := by decide +kernel
theorem dX11_restAt_48 : decode cX11_restAt 48 = .ok (.l2i, 1) := by decide +kernel
theorem dX11_restAt_49 : decode cX11_restAt 49 = .ok (.istore 9, 2) := by decide +kernel
theorem dX11_restAt_51 : decode cX11_restAt 51 = .ok (.aload_n 0, 1) := by decide +kernel
theorem dX11_restAt_52 : decode cX11_restAt 52 = .ok (.iload_n 3, 1) := by decide +kernel
theorem dX11_restAt_53 : decode cX11_restAt 53 = .ok (.iload 9, 2) := by decide +kernel
theorem dX11_restAt_55 : decode cX11_restAt 55 = .ok (.iconst 1, 1) := by decide +kernel
theorem dX11_restAt_56 : decode cX11_restAt 56 = .ok (.iadd, 1) := by decide +kernel
theorem dX11_restAt_57 : decode cX11_restAt 57 = .ok (.invokevirtual 215, 3) := by decide +kernel
theorem dX11_restAt_60 : decode cX11_restAt 60 = .ok (.aload_n 0, 1) := by decide +kernel
theorem dX11_restAt_61 : decode cX11_restAt 61 = .ok (.iload_n 3, 1) := by decide +kernel
theorem dX11_restAt_62 : decode cX11_restAt 62 = .ok (.iload 9, 2) := by decide +kernel
theorem dX11_restAt_64 : decode cX11_restAt 64 = .ok (.invokevirtual 215, 3) := by decide +kernel
theorem dX11_restAt_67 : decode cX11_restAt 67 = .ok (.isub, 1) := by decide +kernel
theorem dX11_restAt_68 : decode cX11_restAt 68 = .ok (.i2l, 1) := by decide +kernel
theorem dX11_restAt_69 : decode cX11_restAt 69 = .ok (.lstore 10, 2) := by decide +kernel
theorem dX11_restAt_71 : decode cX11_restAt 71 = .ok (.aload_n 0, 1) := by decide +kernel
theorem dX11_restAt_72 : decode cX11_restAt 72 = .ok (.iload_n 3, 1) := by decide +kernel
theorem dX11_restAt_73 : decode cX11_restAt 73 = .ok (.iload 9, 2) := by decide +kernel
theorem dX11_restAt_75 : decode cX11_restAt 75 = .ok (.invokevirtual 215, 3) := by decide +kernel
theorem dX11_restAt_78 : decode cX11_restAt 78 = .ok (.lload 10, 2) := by decide +kernel
theorem dX11_restAt_80 : decode cX11_restAt 80 = .ok (.lload 7, 2) := by decide +kernel
theorem dX11_restAt_82 : decode cX11_restAt 82 = .ok (.iload 9, 2) := by decide +kernel
theorem dX11_restAt_84 : decode cX11_restAt 84 = .ok (.i2l, 1) := by decide +kernel
theorem dX11_restAt_85 : decode cX11_restAt 85 = .ok (.lload 5, 2) := by decide +kernel
theorem dX11_restAt_87 : decode cX11_restAt 87 = .ok (.lmul, 1) := by decide +kernel
theorem dX11_restAt_88 : decode cX11_restAt 88 = .ok (.lsub, 1) := by decide +kernel
theorem dX11_restAt_89 : decode cX11_restAt 89 = .ok (.lmul, 1) := by decide +kernel
theorem dX11_restAt_90 : decode cX11_restAt 90 = .ok (.lload 5, 2) := by decide +kernel
theorem dX11_restAt_92 : decode cX11_restAt 92 = .ok (.ldiv, 1) := by decide +kernel
theorem dX11_restAt_93 : decode cX11_restAt 93 = .ok (.l2i, 1) := by decide +kernel
theorem dX11_restAt_94 : decode cX11_restAt 94 = .ok (.iadd, 1) := by decide +kernel
theorem dX11_restAt_95 : decode cX11_restAt 95 = .ok (.ireturn, 1) := by decide +kernel
set_option maxRecDepth 100000 in
set_option maxHeartbeats 4000000 in
theorem m_X11_restAt (l : Launch) (D : va_G) (ct : Nat → ClassId) (S : ty_S) (ws : va_W) (ph : va_W → Prop) (xx : Nat → Nat → Nat → Prop) (mo : Nat) (mw : Nat) (ma : Nat) (mf : Nat) (m0 : Nat) (m1 : Nat) (mu : Nat) (mv : Nat) (u0 : Nat) (u1 : Nat) (iz : Nat) (mb : Nat) (th : Int32) (mn : Int32) (mpt : Int32) (mbg : Int32) (mwr : Int32) (mwk : Int32) (mlf : Int32) (men : Int32) (f : Nat → Int32) (G : Nat → Int32) (cx : Int) (p1 : Int32) (p2 : Int32) (sz : Nat) (hT : ty_V ct S ph ws) (h_mu : S mu = some (.inr (1, 42))) (h_mv : S mv = some (.inr (1, 42))) (h_u0 : S u0 = some (.inr (1, 42))) (h_u1 : S u1 = some (.inr (1, 42))) (hph : ty_C ph xx) (hy1 : ty_y1 xx) (hR : rf_R G cx f) (hc : 0 ≤ p1.toInt ∧ p1.toInt < (G 9).toInt) (hq : 0 ≤ p2.toInt) : Met l yX11_restAt (ws_ yX11_restAt cX11_restAt 12 (some .int)) ({ frames := 1, cells := 0, slots := 0, locals := 22 } : Room) (va_Pc [.ref mo, .int p1, .int p2] (cmP D ct sz ([(rf_MO mo mw ma mf m0 m1 mu mv u0 u1 iz th mb mn mpt mbg mwr mwk mlf men), (rf_RW ct 0 mw 958 f)] ++ ws))) (va_Qi (fun (r : Int32) (u9 : va_W) => ty_V ct S ph u9) (cmB D ([(rf_MO mo mw ma mf m0 m1 mu mv u0 u1 iz th mb mn mpt mbg mwr mwk mlf men), (rf_RW ct 0 mw 958 f)] ++ ws) sz (fun (u9 : va_W) => ([(rf_MO mo mw ma mf m0 m1 mu mv u0 u1 iz th mb mn mpt mbg mwr mwk mlf men), (rf_RW ct 0 mw 958 f)] ++ u9))) (va_A ([(rf_MO mo mw ma mf m0 m1 mu mv u0 u1 iz th mb mn mpt mbg mwr mwk mlf men), (rf_RW ct 0 mw 958 f)] ++ ws) sz)) 0 0 (va_A ([(rf_MO mo mw ma mf m0 m1 mu mv u0 u1 iz th mb mn mpt mbg mwr mwk mlf men), (rf_RW ct 0 mw 958 f)] ++ ws) sz) := by
  refine Met.ofW (cc := cX11_restAt) (maxL := 12) (ret := (some .int)) (by decide) rfl ?_
  intro p e s m args below meth c s₁ B hml hv
  obtain ⟨rfl, hsz, hP, hK, hD0, hX⟩ := hv
  have hx := B.exec
  have hb := B.bytes
  have hr := B.returns
  have hts := ws_all (atoms_spec (ws := ws_ yX11_restAt cX11_restAt 12 (some .int)) B.pre)
  have hown : s.vm.findClass RX11 = some m.cls := findClass_of_methodNamed B.named
  have hlocks := B.notSynchronized
  subst hsz
  have hD := hD0.self (sz := s.heap.size)
  generalize hAe : va_A ([(rf_MO mo mw ma mf m0 m1 mu mv u0 u1 iz th mb mn mpt mbg mwr mwk mlf men), (rf_RW ct 0 mw 958 f)] ++ ws) s.heap.size = A at hD hX ⊢
  have hA : ∀ q : Nat, s.heap.size ≤ q → A q := fun q h => by rw [← hAe]; exact Or.inr h
  have hS : va_S A s.heap s.heap [] := va_S.rf
  have hl := lv_entry ([.ref mo, .int p1, .int p2]) (n := 12) (Nat.le_of_ble_eq_true rfl)
  rw [lg_entry_eq]
  generalize (lg_sl ([.ref mo, .int p1, .int p2]) ++ List.replicate (12 - (lg_sl ([.ref mo, .int p1, .int p2])).length) Slot.unset).toArray = ls at hl ⊢
  have hl : lv_has ls 12 [(0, .ref mo), (1, .int p1), (2, .int p2)] := hl
  refine lv_aload_n hx hb dX11_restAt_0 rfl (lv_at hl 0 rfl) ?_
  refine lv_iload_n hx hb dX11_restAt_1 rfl (lv_at hl 1 rfl) ?_
  refine lv_bipush (v := 11) hx hb dX11_restAt_2 (by decide) ?_
  refine ty_ki (wr := []) (wc := ([(rf_MO mo mw ma mf m0 m1 mu mv u0 u1 iz th mb mn mpt mbg mwr mwk mlf men), (rf_RW ct 0 mw 958 f)] ++ ws)) (va_runV (As := [.int p1, .int 11]) (rest := []) ⟨hx, hb, hml, hown, hts⟩ (m_of_11 l D ct S ws ph xx mo mw ma mf m0 m1 mu mv u0 u1 iz mb th mn mpt mbg mwr mwk mlf men f G cx p1 _ hT h_mu h_mv h_u0 h_u1 hph hy1 hR hc) (cm_V 2 hts kc_X11_of ki_RX11 kl_RX11_209 kv_X11_of kx_X11_of kd_X11_of ⟨Nat.le_of_ble_eq_true rfl, Nat.le_of_ble_eq_true rfl⟩) (ty_preE (wr := []) (wc := ([(rf_MO mo mw ma mf m0 m1 mu mv u0 u1 iz th mb mn mpt mbg mwr mwk mlf men), (rf_RW ct 0 mw 958 f)] ++ ws)) (ci := 11) (q0 := 0) hP hK hD hS hA hX rfl rfl) rfl rfl hl.1 rfl (lv_room (Nat.le_of_ble_eq_true rfl)) dX11_restAt_4 ⟨Nat.le_of_ble_eq_true rfl, Nat.le_of_ble_eq_true rfl⟩) hP hD hS hA (fun r_1 u H locs hw_2 hP hD hS => ?_)
  obtain ⟨ws_3, rfl⟩ : ∃ z, z = u := ⟨_, rfl⟩
  obtain ⟨hT, rfl⟩ := hw_2
  have hP : va_P D vwCl ([(rf_MO mo mw ma mf m0 m1 mu mv u0 u1 iz th mb mn mpt mbg mwr mwk mlf men), (rf_RW ct 0 mw 958 f)] ++ ws_3) H := hP
  have hD : va_D A ([(rf_MO mo mw ma mf m0 m1 mu mv u0 u1 iz th mb mn mpt mbg mwr mwk mlf men), (rf_RW ct 0 mw 958 f)] ++ ws_3) := hD
  refine lv_istore_n (lv' := [(3, .int (rf_of f p1 11)), (0, .ref mo), (1, .int p1), (2, .int p2)]) hx hb dX11_restAt_7 rfl hl (by decide) rfl (fun ls hl => ?_)
  refine lv_aload_n hx hb dX11_restAt_8 rfl (lv_at hl 1 rfl) ?_
  refine lv_iload_n hx hb dX11_restAt_9 rfl (lv_at hl 0 rfl) ?_
  refine ty_ki (wr := []) (wc := ([(rf_MO mo mw ma mf m0 m1 mu mv u0 u1 iz th mb mn mpt mbg mwr mwk mlf men), (rf_RW ct 0 mw 958 f)] ++ ws_3)) (va_runV (As := [.int (rf_of f p1 11)]) (rest := []) ⟨hx, hb, hml, hown, hts⟩ (m_X11_voltsMany l D ct S ws_3 ph xx mo mw ma mf m0 m1 mu mv u0 u1 iz mb th mn mpt mbg mwr mwk mlf men f G cx (rf_of f p1 11) _ hT h_mu h_mv h_u0 h_u1 hph hy1 hR (rf_stat hR hc).1.1) (cm_V 1 hts kc_X11_voltsMany ki_RX11 kl_RX11_212 kv_X11_voltsMany kx_X11_voltsMany kd_X11_voltsMany ⟨Nat.le_of_ble_eq_true rfl, Nat.le_of_ble_eq_true rfl⟩) (ty_preE (wr := []) (wc := ([(rf_MO mo mw ma mf m0 m1 mu mv u0 u1 iz th mb mn mpt mbg mwr mwk mlf men), (rf_RW ct 0 mw 958 f)] ++ ws_3)) (ci := 11) (q0 := 0) hP hK hD hS hA hX rfl rfl) rfl rfl hl.1 rfl (lv_room (Nat.le_of_ble_eq_true rfl)) dX11_restAt_10 ⟨Nat.le_of_ble_eq_true rfl, Nat.le_of_ble_eq_true rfl⟩) hP hD hS hA (fun r_4 u H locs hw_5 hP hD hS => ?_)
  obtain ⟨ws_6, rfl⟩ : ∃ z, z = u := ⟨_, rfl⟩
  obtain ⟨hT, rfl⟩ := hw_5
  have hP : va_P D vwCl ([(rf_MO mo mw ma mf m0 m1 mu mv u0 u1 iz th mb mn mpt mbg mwr mwk mlf men), (rf_RW ct 0 mw 958 f)] ++ ws_6) H := hP
  have hD : va_D A ([(rf_MO mo mw ma mf m0 m1 mu mv u0 u1 iz th mb mn mpt mbg mwr mwk mlf men), (rf_RW ct 0 mw 958 f)] ++ ws_6) := hD
  refine lv_iconst (v := 1) hx hb dX11_restAt_13 (by decide) ?_
  refine lv_isub hx hb dX11_restAt_14 ?_
  refine lv_istore (lv' := [(4, .int ((f (20 + 19 * (rf_of f p1 11).toInt.toNat + 7)) - 1)), (3, .int (rf_of f p1 11)), (0, .ref mo), (1, .int p1), (2, .int p2)]) hx hb dX11_restAt_15 hl (by decide) rfl (fun ls hl => ?_)
  refine lv_aload_n hx hb dX11_restAt_17 rfl (lv_at hl 2 rfl) ?_
  refine lv_iload_n hx hb dX11_restAt_18 rfl (lv_at hl 3 rfl) ?_
  refine lv_bipush (v := 7) hx hb dX11_restAt_19 (by decide) ?_
  refine ty_ki (wr := []) (wc := ([(rf_MO mo mw ma mf m0 m1 mu mv u0 u1 iz th mb mn mpt mbg mwr mwk mlf men), (rf_RW ct 0 mw 958 f)] ++ ws_6)) (va_runV (As := [.int p1, .int 7]) (rest := []) ⟨hx, hb, hml, hown, hts⟩ (m_of_7 l D ct S ws_6 ph xx mo mw ma mf m0 m1 mu mv u0 u1 iz mb th mn mpt mbg mwr mwk mlf men f G cx p1 _ hT h_mu h_mv h_u0 h_u1 hph hy1 hR hc) (cm_V 2 hts kc_X11_of ki_RX11 kl_RX11_209 kv_X11_of kx_X11_of kd_X11_of ⟨Nat.le_of_ble_eq_true rfl, Nat.le_of_ble_eq_true rfl⟩) (ty_preE (wr := []) (wc := ([(rf_MO mo mw ma mf m0 m1 mu mv u0 u1 iz th mb mn mpt mbg mwr mwk mlf men), (rf_RW ct 0 mw 958 f)] ++ ws_6)) (ci := 11) (q0 := 0) hP hK hD hS hA hX rfl rfl) rfl rfl hl.1 rfl (lv_room (Nat.le_of_ble_eq_true rfl)) dX11_restAt_21 ⟨Nat.le_of_ble_eq_true rfl, Nat.le_of_ble_eq_true rfl⟩) hP hD hS hA (fun r_7 u H locs hw_8 hP hD hS => ?_)
  obtain ⟨ws_9, rfl⟩ : ∃ z, z = u := ⟨_, rfl⟩
  obtain ⟨hT, rfl⟩ := hw_8
  have hP : va_P D vwCl ([(rf_MO mo mw ma mf m0 m1 mu mv u0 u1 iz th mb mn mpt mbg mwr mwk mlf men), (rf_RW ct 0 mw 958 f)] ++ ws_9) H := hP
  have hD : va_D A ([(rf_MO mo mw ma mf m0 m1 mu mv u0 u1 iz th mb mn mpt mbg mwr mwk mlf men), (rf_RW ct 0 mw 958 f)] ++ ws_9) := hD
  refine lv_i2l hx hb dX11_restAt_24 rfl ?_
  refine lv_lstore (lv' := [(5, .long ((rf_of f p1 7).toInt64)), (4, .int ((f (20 + 19 * (rf_of f p1 11).toInt.toNat + 7)) - 1)), (3, .int (rf_of f p1 11)), (0, .ref mo), (1, .int p1), (2, .int p2)]) hx hb dX11_restAt_25 hl (by decide) rfl (fun ls hl => ?_)
  refine lv_iload_n hx hb dX11_restAt_27 rfl (lv_at hl 5 rfl) ?_
  refine lv_i2l hx hb dX11_restAt_28 rfl ?_
  refine lv_iload hx hb dX11_restAt_29 (lv_at hl 1 rfl) ?_
  refine lv_i2l hx hb dX11_restAt_31 rfl ?_
  refine lv_lmul hx hb dX11_restAt_32 ?_
  refine lv_lstore (lv' := [(7, .long (p2.toInt64 * (((f (20 + 19 * (rf_of f p1 11).toInt.toNat + 7)) - 1).toInt64))), (5, .long ((rf_of f p1 7).toInt64)), (4, .int ((f (20 + 19 * (rf_of f p1 11).toInt.toNat + 7)) - 1)), (3, .int (rf_of f p1 11)), (0, .ref mo), (1, .int p1), (2, .int p2)]) hx hb dX11_restAt_33 hl (by decide) rfl (fun ls hl => ?_)
  refine lv_lload hx hb dX11_restAt_35 (lv_at hl 0 rfl) ?_
  refine lv_lload hx hb dX11_restAt_37 (lv_at hl 1 rfl) ?_
  refine lv_ldiv hx hb dX11_restAt_39 (rf_nzl (by have := rf_full hR hc; omega)) ?_
  refine lv_iload hx hb dX11_restAt_40 (lv_at hl 2 rfl) ?_
  refine lv_iconst (v := 1) hx hb dX11_restAt_42 (by decide) ?_
  refine lv_isub hx hb dX11_restAt_43 ?_
  refine lv_i2l hx hb dX11_restAt_44 rfl ?_
  refine va_mmin_long hx hb (hml.trans hl.1.symm) hown (hts _ kl_RX11_119) (hts _ jm_min_long_s) (hts _ ki_RJ9) (hts _ jm_min_long_c) (Nat.le_of_ble_eq_true rfl) (Nat.le_of_ble_eq_true rfl) (Nat.le_of_ble_eq_true rfl) (Nat.le_of_ble_eq_true rfl) dX11_restAt_45 ?_
  refine lv_l2i hx hb dX11_restAt_48 rfl ?_
  refine lv_topi (fun k_9 hk_9 => ?_)
  have hk_8 := rf_rk hq (rf_stat hR hc).1.2 (rf_full hR hc) hk_9
  refine lv_istore (lv' := [(9, .int k_9), (7, .long (p2.toInt64 * (((f (20 + 19 * (rf_of f p1 11).toInt.toNat + 7)) - 1).toInt64))), (5, .long ((rf_of f p1 7).toInt64)), (4, .int ((f (20 + 19 * (rf_of f p1 11).toInt.toNat + 7)) - 1)), (3, .int (rf_of f p1 11)), (0, .ref mo), (1, .int p1), (2, .int p2)]) hx hb dX11_restAt_49 hl (by decide) rfl (fun ls hl => ?_)
  refine lv_aload_n hx hb dX11_restAt_51 rfl (lv_at hl 5 rfl) ?_
  refine lv_iload_n hx hb dX11_restAt_52 rfl (lv_at hl 4 rfl) ?_
  refine lv_iload hx hb dX11_restAt_53 (lv_at hl 0 rfl) ?_
  refine lv_iconst (v := 1) hx hb dX11_restAt_55 (by decide) ?_
  refine lv_iadd hx hb dX11_restAt_56 ?_
  refine ty_ki (wr := []) (wc := ([(rf_MO mo mw ma mf m0 m1 mu mv u0 u1 iz th mb mn mpt mbg mwr mwk mlf men), (rf_RW ct 0 mw 958 f)] ++ ws_9)) (va_runV (As := [.int (rf_of f p1 11), .int (k_9 + 1)]) (rest := []) ⟨hx, hb, hml, hown, hts⟩ (m_X11_volts l D ct S ws_9 ph xx mo mw ma mf m0 m1 mu mv u0 u1 iz mb th mn mpt mbg mwr mwk mlf men f G cx (rf_of f p1 11) (k_9 + 1) _ hT h_mu h_mv h_u0 h_u1 hph hy1 hR (rf_stat hR hc).1.1 (rf_rk1 hk_8)) (cm_V 2 hts kc_X11_volts ki_RX11 kl_RX11_215 kv_X11_volts kx_X11_volts kd_X11_volts ⟨Nat.le_of_ble_eq_true rfl, Nat.le_of_ble_eq_true rfl⟩) (ty_preE (wr := []) (wc := ([(rf_MO mo mw ma mf m0 m1 mu mv u0 u1 iz th mb mn mpt mbg mwr mwk mlf men), (rf_RW ct 0 mw 958 f)] ++ ws_9)) (ci := 11) (q0 := 0) hP hK hD hS hA hX rfl rfl) rfl rfl hl.1 rfl (lv_room (Nat.le_of_ble_eq_true rfl)) dX11_restAt_57 ⟨Nat.le_of_ble_eq_true rfl, Nat.le_of_ble_eq_true rfl⟩) hP hD hS hA (fun r_10 u H locs hw_11 hP hD hS => ?_)
  obtain ⟨ws_12, rfl⟩ : ∃ z, z = u := ⟨_, rfl⟩
  have hT := hw_11
  have hP : va_P D vwCl ([(rf_MO mo mw ma mf m0 m1 mu mv u0 u1 iz th mb mn mpt mbg mwr mwk mlf men), (rf_RW ct 0 mw 958 f)] ++ ws_12) H := hP
  have hD : va_D A ([(rf_MO mo mw ma mf m0 m1 mu mv u0 u1 iz th mb mn mpt mbg mwr mwk mlf men), (rf_RW ct 0 mw 958 f)] ++ ws_12) := hD
  refine lv_aload_n hx hb dX11_restAt_60 rfl (lv_at hl 5 rfl) ?_
  refine lv_iload_n hx hb dX11_restAt_61 rfl (lv_at hl 4 rfl) ?_
  refine lv_iload hx hb dX11_restAt_62 (lv_at hl 0 rfl) ?_
  refine ty_ki (wr := []) (wc := ([(rf_MO mo mw ma mf m0 m1 mu mv u0 u1 iz th mb mn mpt mbg mwr mwk mlf men), (rf_RW ct 0 mw 958 f)] ++ ws_12)) (va_runV (As := [.int (rf_of f p1 11), .int k_9]) (rest := [.int r_10]) ⟨hx, hb, hml, hown, hts⟩ (m_X11_volts l D ct S ws_12 ph xx mo mw ma mf m0 m1 mu mv u0 u1 iz mb th mn mpt mbg mwr mwk mlf men f G cx (rf_of f p1 11) k_9 _ hT h_mu h_mv h_u0 h_u1 hph hy1 hR (rf_stat hR hc).1.1 (rf_rk0 hk_8)) (cm_V 2 hts kc_X11_volts ki_RX11 kl_RX11_215 kv_X11_volts kx_X11_volts kd_X11_volts ⟨Nat.le_of_ble_eq_true rfl, Nat.le_of_ble_eq_true rfl⟩) (ty_preE (wr := []) (wc := ([(rf_MO mo mw ma mf m0 m1 mu mv u0 u1 iz th mb mn mpt mbg mwr mwk mlf men), (rf_RW ct 0 mw 958 f)] ++ ws_12)) (ci := 11) (q0 := 0) hP hK hD hS hA hX rfl rfl) rfl rfl hl.1 rfl (lv_room (Nat.le_of_ble_eq_true rfl)) dX11_restAt_64 ⟨Nat.le_of_ble_eq_true rfl, Nat.le_of_ble_eq_true rfl⟩) hP hD hS hA (fun r_13 u H locs hw_14 hP hD hS => ?_)
  obtain ⟨ws_15, rfl⟩ : ∃ z, z = u := ⟨_, rfl⟩
  have hT := hw_14
  have hP : va_P D vwCl ([(rf_MO mo mw ma mf m0 m1 mu mv u0 u1 iz th mb mn mpt mbg mwr mwk mlf men), (rf_RW ct 0 mw 958 f)] ++ ws_15) H := hP
  have hD : va_D A ([(rf_MO mo mw ma mf m0 m1 mu mv u0 u1 iz th mb mn mpt mbg mwr mwk mlf men), (rf_RW ct 0 mw 958 f)] ++ ws_15) := hD
  refine lv_isub hx hb dX11_restAt_67 ?_
  refine lv_topi (fun x_16 _ => ?_)
  refine lv_i2l hx hb dX11_restAt_68 rfl ?_
  refine lv_topl (fun x_17 _ => ?_)
  refine lv_lstore (lv' := [(10, .long x_17), (9, .int k_9), (7, .long (p2.toInt64 * (((f (20 + 19 * (rf_of f p1 11).toInt.toNat + 7)) - 1).toInt64))), (5, .long ((rf_of f p1 7).toInt64)), (4, .int ((f (20 + 19 * (rf_of f p1 11).toInt.toNat + 7)) - 1)), (3, .int (rf_of f p1 11)), (0, .ref mo), (1, .int p1), (2, .int p2)]) hx hb dX11_restAt_69 hl (by decide) rfl (fun ls hl => ?_)
  refine lv_aload_n hx hb dX11_restAt_71 rfl (lv_at hl 6 rfl) ?_
  refine lv_iload_n hx hb dX11_restAt_72 rfl (lv_at hl 5 rfl) ?_
  refine lv_iload hx hb dX11_restAt_73 (lv_at hl 1 rfl) ?_
  refine ty_ki (wr := []) (wc := ([(rf_MO mo mw ma mf m0 m1 mu mv u0 u1 iz th mb mn mpt mbg mwr mwk mlf men), (rf_RW ct 0 mw 958 f)] ++ ws_15)) (va_runV (As := [.int (rf_of f p1 11), .int k_9]) (rest := []) ⟨hx, hb, hml, hown, hts⟩ (m_X11_volts l D ct S ws_15 ph xx mo mw ma mf m0 m1 mu mv u0 u1 iz mb th mn mpt mbg mwr mwk mlf men f G cx (rf_of f p1 11) k_9 _ hT h_mu h_mv h_u0 h_u1 hph hy1 hR (rf_stat hR hc).1.1 (rf_rk0 hk_8)) (cm_V 2 hts kc_X11_volts ki_RX11 kl_RX11_215 kv_X11_volts kx_X11_volts kd_X11_volts ⟨Nat.le_of_ble_eq_true rfl, Nat.le_of_ble_eq_true rfl⟩) (ty_preE (wr := []) (wc := ([(rf_MO mo mw ma mf m0 m1 mu mv u0 u1 iz th mb mn mpt mbg mwr mwk mlf men), (rf_RW ct 0 mw 958 f)] ++ ws_15)) (ci := 11) (q0 := 0) hP hK hD hS hA hX rfl rfl) rfl rfl hl.1 rfl (lv_room (Nat.le_of_ble_eq_true rfl)) dX11_restAt_75 ⟨Nat.le_of_ble_eq_true rfl, Nat.le_of_ble_eq_true rfl⟩) hP hD hS hA (fun r_18 u H locs hw_19 hP hD hS => ?_)
  obtain ⟨ws_20, rfl⟩ : ∃ z, z = u := ⟨_, rfl⟩
  have hT := hw_19
  have hP : va_P D vwCl ([(rf_MO mo mw ma mf m0 m1 mu mv u0 u1 iz th mb mn mpt mbg mwr mwk mlf men), (rf_RW ct 0 mw 958 f)] ++ ws_20) H := hP
  have hD : va_D A ([(rf_MO mo mw ma mf m0 m1 mu mv u0 u1 iz th mb mn mpt mbg mwr mwk mlf men), (rf_RW ct 0 mw 958 f)] ++ ws_20) := hD
  refine lv_lload hx hb dX11_restAt_78 (lv_at hl 0 rfl) ?_
  refine lv_lload hx hb dX11_restAt_80 (lv_at hl 2 rfl) ?_
  refine lv_iload hx hb dX11_restAt_82 (lv_at hl 1 rfl) ?_
  refine lv_i2l hx hb dX11_restAt_84 rfl ?_
  refine lv_topl (fun x_21 _ => ?_)
  refine lv_lload hx hb dX11_restAt_85 (lv_at hl 3 rfl) ?_
  refine lv_lmul hx hb dX11_restAt_87 ?_
  refine lv_topl (fun x_22 _ => ?_)
  refine lv_lsub hx hb dX11_restAt_88 ?_
  refine lv_topl (fun x_23 _ => ?_)
  refine lv_lmul hx hb dX11_restAt_89 ?_
  refine lv_topl (fun x_24 _ => ?_)
  refine lv_lload hx hb dX11_restAt_90 (lv_at hl 3 rfl) ?_
  refine lv_ldiv hx hb dX11_restAt_92 (rf_nzl (by have := rf_full hR hc; omega)) ?_
  refine lv_topl (fun x_25 _ => ?_)
  refine lv_l2i hx hb dX11_restAt_93 rfl ?_
  refine lv_iadd hx hb dX11_restAt_94 ?_
  refine lv_topi (fun x_26 _ => ?_)
  exact W.iret (v := x_26) hx hb hr (fun t ht hW => ⟨⟨x_26, ws_20, rfl, hT, by rw [ht]; exact hP, by rw [hAe]; exact hD⟩, hS.F ht⟩) hS.2.2 dX11_restAt_95
theorem dX11_filled_0 : decode cX11_filled 0 = .ok (.ldc2_w 303, 3) := by decide +kernel
theorem dX11_filled_3 : decode cX11_filled 3 = .ok (.aload_n 0, 1) := by decide +kernel
theorem dX11_filled_4 : decode cX11_filled 4 = .ok (.iload_n 1, 1) := by decide +kernel
theorem dX11_filled_5 : decode cX11_filled 5 = .ok (.bipush 6, 2) := by decide +kernel
theorem dX11_filled_7 : decode cX11_filled 7 = .ok (.invokevirtual 209, 3) := by decide +kernel
theorem dX11_filled_10 : decode cX11_filled 10 = .ok (.i2l, 1) := by decide +kernel
theorem dX11_filled_11 : decode cX11_filled 11 = .ok (.lmul, 1) := by decide +kernel
theorem dX11_filled_12 : decode cX11_filled 12 = .ok (.aload_n 0, 1) := by decide +kernel
theorem dX11_filled_13 : decode cX11_filled 13 = .ok (.iload_n 1, 1) := by decide +kernel
theorem dX11_filled_14 : decode cX11_filled 14 = .ok (.bipush 7, 2) := by decide +kernel
theorem dX11_filled_16 : decode cX11_filled 16 = .ok (.invokevirtual 209, 3) := by decide +kernel
theorem dX11_filled_19 : decode cX11_filled 19 = .ok (.i2l, 1) := by decide +kernel
theorem dX11_filled_20 : decode cX11_filled 20 = .ok (.ldiv, 1) := by decide +kernel
theorem dX11_filled_21 : decode cX11_filled 21 = .ok (.l2i, 1) := by decide +kernel
theorem dX11_filled_22 : decode cX11_filled 22 = .ok (.ireturn, 1) := by decide +kernel
set_option maxRecDepth 100000 in
set_option maxHeartbeats 4000000 in
theorem m_X11_filled (l : Launch) (D : va_G) (ct : Nat → ClassId) (S : ty_S) (ws : va_W) (ph : va_W → Prop) (xx : Nat → Nat → Nat → Prop) (mo : Nat) (mw : Nat) (ma : Nat) (mf : Nat) (m0 : Nat) (m1 : Nat) (mu : Nat) (mv : Nat) (u0 : Nat) (u1 : Nat) (iz : Nat) (mb : Nat) (th : Int32) (mn : Int32) (mpt : Int32) (mbg : Int32) (mwr : Int32) (mwk : Int32) (mlf : Int32) (men : Int32) (f : Nat → Int32) (G : Nat → Int32) (cx : Int) (p1 : Int32) (sz : Nat) (hT : ty_V ct S ph ws) (h_mu : S mu = some (.inr (1, 42))) (h_mv : S mv = some (.inr (1, 42))) (h_u0 : S u0 = some (.inr (1, 42))) (h_u1 : S u1 = some (.inr (1, 42))) (hph : ty_C ph xx) (hy1 : ty_y1 xx) (hR : rf_R G cx f) (hc : 0 ≤ p1.toInt ∧ p1.toInt < (G 9).toInt) : Met l yX11_filled (ws_ yX11_filled cX11_filled 2 (some .int)) ({ frames := 1, cells := 0, slots := 0, locals := 22 } : Room) (va_Pc [.ref mo, .int p1] (cmP D ct sz ([(rf_MO mo mw ma mf m0 m1 mu mv u0 u1 iz th mb mn mpt mbg mwr mwk mlf men), (rf_RW ct 0 mw 958 f)] ++ ws))) (va_Qi (fun (r : Int32) (u9 : va_W) => ty_V ct S ph u9 ∧ 0 ≤ r.toInt) (cmB D ([(rf_MO mo mw ma mf m0 m1 mu mv u0 u1 iz th mb mn mpt mbg mwr mwk mlf men), (rf_RW ct 0 mw 958 f)] ++ ws) sz (fun (u9 : va_W) => ([(rf_MO mo mw ma mf m0 m1 mu mv u0 u1 iz th mb mn mpt mbg mwr mwk mlf men), (rf_RW ct 0 mw 958 f)] ++ u9))) (va_A ([(rf_MO mo mw ma mf m0 m1 mu mv u0 u1 iz th mb mn mpt mbg mwr mwk mlf men), (rf_RW ct 0 mw 958 f)] ++ ws) sz)) 0 0 (va_A ([(rf_MO mo mw ma mf m0 m1 mu mv u0 u1 iz th mb mn mpt mbg mwr mwk mlf men), (rf_RW ct 0 mw 958 f)] ++ ws) sz) := by
  refine Met.ofW (cc := cX11_filled) (maxL := 2) (ret := (some .int)) (by decide) rfl ?_
  intro p e s m args below meth c s₁ B hml hv
  obtain ⟨rfl, hsz, hP, hK, hD0, hX⟩ := hv
  have hx := B.exec
  have hb := B.bytes
  have hr := B.returns
  have hts := ws_all (atoms_spec (ws := ws_ yX11_filled cX11_filled 2 (some .int)) B.pre)
  have hown : s.vm.findClass RX11 = some m.cls := findClass_of_methodNamed B.named
  have hlocks := B.notSynchronized
  subst hsz
  have hD := hD0.self (sz := s.heap.size)
  generalize hAe : va_A ([(rf_MO mo mw ma mf m0 m1 mu mv u0 u1 iz th mb mn mpt mbg mwr mwk mlf men), (rf_RW ct 0 mw 958 f)] ++ ws) s.heap.size = A at hD hX ⊢
  have hA : ∀ q : Nat, s.heap.size ≤ q → A q := fun q h => by rw [← hAe]; exact Or.inr h
  have hS : va_S A s.heap s.heap [] := va_S.rf
  have hl := lv_entry ([.ref mo, .int p1]) (n := 2) (Nat.le_of_ble_eq_true rfl)
  rw [lg_entry_eq]
  generalize (lg_sl ([.ref mo, .int p1]) ++ List.replicate (2 - (lg_sl ([.ref mo, .int p1])).length) Slot.unset).toArray = ls at hl ⊢
  have hl : lv_has ls 2 [(0, .ref mo), (1, .int p1)] := hl
  refine lv_ldc2 hx hb hown (hts _ kl_RX11_303) dX11_filled_0 ?_
  refine lv_aload_n hx hb dX11_filled_3 rfl (lv_at hl 0 rfl) ?_
  refine lv_iload_n hx hb dX11_filled_4 rfl (lv_at hl 1 rfl) ?_
  refine lv_bipush (v := 6) hx hb dX11_filled_5 (by decide) ?_
  refine ty_ki (wr := []) (wc := ([(rf_MO mo mw ma mf m0 m1 mu mv u0 u1 iz th mb mn mpt mbg mwr mwk mlf men), (rf_RW ct 0 mw 958 f)] ++ ws)) (va_runV (As := [.int p1, .int 6]) (rest := [.long 1000]) ⟨hx, hb, hml, hown, hts⟩ (m_of_6 l D ct S ws ph xx mo mw ma mf m0 m1 mu mv u0 u1 iz mb th mn mpt mbg mwr mwk mlf men f G cx p1 _ hT h_mu h_mv h_u0 h_u1 hph hy1 hR hc) (cm_V 2 hts kc_X11_of ki_RX11 kl_RX11_209 kv_X11_of kx_X11_of kd_X11_of ⟨Nat.le_of_ble_eq_true rfl, Nat.le_of_ble_eq_true rfl⟩) (ty_preE (wr := []) (wc := ([(rf_MO mo mw ma mf m0 m1 mu mv u0 u1 iz th mb mn mpt mbg mwr mwk mlf men), (rf_RW ct 0 mw 958 f)] ++ ws)) (ci := 11) (q0 := 0) hP hK hD hS hA hX rfl rfl) rfl rfl hl.1 rfl (lv_room (Nat.le_of_ble_eq_true rfl)) dX11_filled_7 ⟨Nat.le_of_ble_eq_true rfl, Nat.le_of_ble_eq_true rfl⟩) hP hD hS hA (fun r_1 u H locs hw_2 hP hD hS => ?_)
  obtain ⟨ws_3, rfl⟩ : ∃ z, z = u := ⟨_, rfl⟩
  obtain ⟨hT, rfl⟩ := hw_2
  have hP : va_P D vwCl ([(rf_MO mo mw ma mf m0 m1 mu mv u0 u1 iz th mb mn mpt mbg mwr mwk mlf men), (rf_RW ct 0 mw 958 f)] ++ ws_3) H := hP
  have hD : va_D A ([(rf_MO mo mw ma mf m0 m1 mu mv u0 u1 iz th mb mn mpt mbg mwr mwk mlf men), (rf_RW ct 0 mw 958 f)] ++ ws_3) := hD
  refine lv_i2l hx hb dX11_filled_10 rfl ?_
  refine lv_lmul hx hb dX11_filled_11 ?_
  refine lv_aload_n hx hb dX11_filled_12 rfl (lv_at hl 0 rfl) ?_
  refine lv_iload_n hx hb dX11_filled_13 rfl (lv_at hl 1 rfl) ?_
  refine lv_bipush (v := 7) hx hb dX11_filled_14 (by decide) ?_
  refine ty_ki (wr := []) (wc := ([(rf_MO mo mw ma mf m0 m1 mu mv u0 u1 iz th mb mn mpt mbg mwr mwk mlf men), (rf_RW ct 0 mw 958 f)] ++ ws_3)) (va_runV (As := [.int p1, .int 7]) (rest := [.long (1000 * ((rf_of f p1 6).toInt64))]) ⟨hx, hb, hml, hown, hts⟩ (m_of_7 l D ct S ws_3 ph xx mo mw ma mf m0 m1 mu mv u0 u1 iz mb th mn mpt mbg mwr mwk mlf men f G cx p1 _ hT h_mu h_mv h_u0 h_u1 hph hy1 hR hc) (cm_V 2 hts kc_X11_of ki_RX11 kl_RX11_209 kv_X11_of kx_X11_of kd_X11_of ⟨Nat.le_of_ble_eq_true rfl, Nat.le_of_ble_eq_true rfl⟩) (ty_preE (wr := []) (wc := ([(rf_MO mo mw ma mf m0 m1 mu mv u0 u1 iz th mb mn mpt mbg mwr mwk mlf men), (rf_RW ct 0 mw 958 f)] ++ ws_3)) (ci := 11) (q0 := 0) hP hK hD hS hA hX rfl rfl) rfl rfl hl.1 rfl (lv_room (Nat.le_of_ble_eq_true rfl)) dX11_filled_16 ⟨Nat.le_of_ble_eq_true rfl, Nat.le_of_ble_eq_true rfl⟩) hP hD hS hA (fun r_4 u H locs hw_5 hP hD hS => ?_)
  obtain ⟨ws_6, rfl⟩ : ∃ z, z = u := ⟨_, rfl⟩
  obtain ⟨hT, rfl⟩ := hw_5
  have hP : va_P D vwCl ([(rf_MO mo mw ma mf m0 m1 mu mv u0 u1 iz th mb mn mpt mbg mwr mwk mlf men), (rf_RW ct 0 mw 958 f)] ++ ws_6) H := hP
  have hD : va_D A ([(rf_MO mo mw ma mf m0 m1 mu mv u0 u1 iz th mb mn mpt mbg mwr mwk mlf men), (rf_RW ct 0 mw 958 f)] ++ ws_6) := hD
  refine lv_i2l hx hb dX11_filled_19 rfl ?_
  refine lv_ldiv hx hb dX11_filled_20 (rf_nzl (by have := rf_full hR hc; omega)) ?_
  refine lv_l2i hx hb dX11_filled_21 rfl ?_
  exact W.iret (v := ((1000 * ((rf_of f p1 6).toInt64)) / ((rf_of f p1 7).toInt64)).toInt32) hx hb hr (fun t ht hW => ⟨⟨((1000 * ((rf_of f p1 6).toInt64)) / ((rf_of f p1 7).toInt64)).toInt32, ws_6, rfl, ⟨hT, (rf_fl (by have := rf_qp hR hc; omega) (rf_full hR hc))⟩, by rw [ht]; exact hP, by rw [hAe]; exact hD⟩, hS.F ht⟩) hS.2.2 dX11_filled_22
theorem dX11_share_0 : decode cX11_share 0 = .ok (.ldc2_w 303, 3) := by decide +kernel
theorem dX11_share_3 : decode cX11_share 3 = .ok (.aload_n 0, 1) := by decide +kernel
theorem dX11_share_4 : decode cX11_share 4 = .ok (.iload_n 1, 1) := by decide +kernel
theorem dX11_share_5 : decode cX11_share 5 = .ok (.bipush 7, 2) := by decide +kernel
theorem dX11_share_7 : decode cX11_share 7 = .ok (.invokevirtual 209, 3) := by decide +kernel
theorem dX11_share_10 : decode cX11_share 10 = .ok (.i2l, 1) := by decide +kernel
theorem dX11_share_11 : decode cX11_share 11 = .ok (.lmul, 1) := by decide +kernel
theorem dX11_share_12 : decode cX11_share 12 = .ok (.aload_n 0, 1) := by decide +kernel
theorem dX11_share_13 : decode cX11_share 13 = .ok (.iload_n 1, 1) := by decide +kernel
theorem dX11_share_14 : decode cX11_share 14 = .ok (.bipush 12, 2) := by decide +kernel
theorem dX11_share_16 : decode cX11_share 16 = .ok (.invokevirtual 209, 3) := by decide +kernel
theorem dX11_share_19 : decode cX11_share 19 = .ok (.i2l, 1) := by decide +kernel
theorem dX11_share_20 : decode cX11_share 20 = .ok (.ldiv, 1) := by decide +kernel
theorem dX11_share_21 : decode cX11_share 21 = .ok (.l2i, 1) := by decide +kernel
theorem dX11_share_22 : decode cX11_share 22 = .ok (.ireturn, 1) := by decide +kernel
set_option maxRecDepth 100000 in
set_option maxHeartbeats 4000000 in
theorem m_X11_share (l : Launch) (D : va_G) (ct : Nat → ClassId) (S : ty_S) (ws : va_W) (ph : va_W → Prop) (xx : Nat → Nat → Nat → Prop) (mo : Nat) (mw : Nat) (ma : Nat) (mf : Nat) (m0 : Nat) (m1 : Nat) (mu : Nat) (mv : Nat) (u0 : Nat) (u1 : Nat) (iz : Nat) (mb : Nat) (th : Int32) (mn : Int32) (mpt : Int32) (mbg : Int32) (mwr : Int32) (mwk : Int32) (mlf : Int32) (men : Int32) (f : Nat → Int32) (G : Nat → Int32) (cx : Int) (p1 : Int32) (sz : Nat) (hT : ty_V ct S ph ws) (h_mu : S mu = some (.inr (1, 42))) (h_mv : S mv = some (.inr (1, 42))) (h_u0 : S u0 = some (.inr (1, 42))) (h_u1 : S u1 = some (.inr (1, 42))) (hph : ty_C ph xx) (hy1 : ty_y1 xx) (hR : rf_R G cx f) (hc : 0 ≤ p1.toInt ∧ p1.toInt < (G 9).toInt) : Met l yX11_share (ws_ yX11_share cX11_share 2 (some .int)) ({ frames := 1, cells := 0, slots := 0, locals := 22 } : Room) (va_Pc [.ref mo, .int p1] (cmP D ct sz ([(rf_MO mo mw ma mf m0 m1 mu mv u0 u1 iz th mb mn mpt mbg mwr mwk mlf men), (rf_RW ct 0 mw 958 f)] ++ ws))) (va_Qi (fun (r : Int32) (u9 : va_W) => ty_V ct S ph u9) (cmB D ([(rf_MO mo mw ma mf m0 m1 mu mv u0 u1 iz th mb mn mpt mbg mwr mwk mlf men), (rf_RW ct 0 mw 958 f)] ++ ws) sz (fun (u9 : va_W) => ([(rf_MO mo mw ma mf m0 m1 mu mv u0 u1 iz th mb mn mpt mbg mwr mwk mlf men), (rf_RW ct 0 mw 958 f)] ++ u9))) (va_A ([(rf_MO mo mw ma mf m0 m1 mu mv u0 u1 iz th mb mn mpt mbg mwr mwk mlf men), (rf_RW ct 0 mw 958 f)] ++ ws) sz)) 0 0 (va_A ([(rf_MO mo mw ma mf m0 m1 mu mv u0 u1 iz th mb mn mpt mbg mwr mwk mlf men), (rf_RW ct 0 mw 958 f)] ++ ws) sz) := by
  refine Met.ofW (cc := cX11_share) (maxL := 2) (ret := (some .int)) (by decide) rfl ?_
  intro p e s m args below meth c s₁ B hml hv
  obtain ⟨rfl, hsz, hP, hK, hD0, hX⟩ := hv
  have hx := B.exec
  have hb := B.bytes
  have hr := B.returns
  have hts := ws_all (atoms_spec (ws := ws_ yX11_share cX11_share 2 (some .int)) B.pre)
  have hown : s.vm.findClass RX11 = some m.cls := findClass_of_methodNamed B.named
  have hlocks := B.notSynchronized
  subst hsz
  have hD := hD0.self (sz := s.heap.size)
  generalize hAe : va_A ([(rf_MO mo mw ma mf m0 m1 mu mv u0 u1 iz th mb mn mpt mbg mwr mwk mlf men), (rf_RW ct 0 mw 958 f)] ++ ws) s.heap.size = A at hD hX ⊢
  have hA : ∀ q : Nat, s.heap.size ≤ q → A q := fun q h => by rw [← hAe]; exact Or.inr h
  have hS : va_S A s.heap s.heap [] := va_S.rf
  have hl := lv_entry ([.ref mo, .int p1]) (n := 2) (Nat.le_of_ble_eq_true rfl)
  rw [lg_entry_eq]
  generalize (lg_sl ([.ref mo, .int p1]) ++ List.replicate (2 - (lg_sl ([.ref mo, .int p1])).length) Slot.unset).toArray = ls at hl ⊢
  have hl : lv_has ls 2 [(0, .ref mo), (1, .int p1)] := hl
  refine lv_ldc2 hx hb hown (hts _ kl_RX11_303) dX11_share_0 ?_
  refine lv_aload_n hx hb dX11_share_3 rfl (lv_at hl 0 rfl) ?_
  refine lv_iload_n hx hb dX11_share_4 rfl (lv_at hl 1 rfl) ?_
  refine lv_bipush (v := 7) hx hb dX11_share_5 (by decide) ?_
  refine ty_ki (wr := []) (wc := ([(rf_MO mo mw ma mf m0 m1 mu mv u0 u1 iz th mb mn mpt mbg mwr mwk mlf men), (rf_RW ct 0 mw 958 f)] ++ ws)) (va_runV (As := [.int p1, .int 7]) (rest := [.long 1000]) ⟨hx, hb, hml, hown, hts⟩ (m_of_7 l D ct S ws ph xx mo mw ma mf m0 m1 mu mv u0 u1 iz mb th mn mpt mbg mwr mwk mlf men f G cx p1 _ hT h_mu h_mv h_u0 h_u1 hph hy1 hR hc) (cm_V 2 hts kc_X11_of ki_RX11 kl_RX11_209 kv_X11_of kx_X11_of kd_X11_of ⟨Nat.le_of_ble_eq_true rfl, Nat.le_of_ble_eq_true rfl⟩) (ty_preE (wr := []) (wc := ([(rf_MO mo mw ma mf m0 m1 mu mv u0 u1 iz th mb mn mpt mbg mwr mwk mlf men), (rf_RW ct 0 mw 958 f)] ++ ws)) (ci := 11) (q0 := 0) hP hK hD hS hA hX rfl rfl) rfl rfl hl.1 rfl (lv_room (Nat.le_of_ble_eq_true rfl)) dX11_share_7 ⟨Nat.le_of_ble_eq_true rfl, Nat.le_of_ble_eq_true rfl⟩) hP hD hS hA (fun r_1 u H locs hw_2 hP hD hS => ?_)
  obtain ⟨ws_3, rfl⟩ : ∃ z, z = u := ⟨_, rfl⟩
  obtain ⟨hT, rfl⟩ := hw_2
  have hP : va_P D vwCl ([(rf_MO mo mw ma mf m0 m1 mu mv u0 u1 iz th mb mn mpt mbg mwr mwk mlf men), (rf_RW ct 0 mw 958 f)] ++ ws_3) H := hP
  have hD : va_D A ([(rf_MO mo mw ma mf m0 m1 mu mv u0 u1 iz th mb mn mpt mbg mwr mwk mlf men), (rf_RW ct 0 mw 958 f)] ++ ws_3) := hD
  refine lv_i2l hx hb dX11_share_10 rfl ?_
  refine lv_topl (fun x_4 _ => ?_)
  refine lv_lmul hx hb dX11_share_11 ?_
  refine lv_topl (fun x_5 _ => ?_)
  refine lv_aload_n hx hb dX11_share_12 rfl (lv_at hl 0 rfl) ?_
  refine lv_iload_n hx hb dX11_share_13 rfl (lv_at hl 1 rfl) ?_
  refine lv_bipush (v := 12) hx hb dX11_share_14 (by decide) ?_
  refine ty_ki (wr := []) (wc := ([(rf_MO mo mw ma mf m0 m1 mu mv u0 u1 iz th mb mn mpt mbg mwr mwk mlf men), (rf_RW ct 0 mw 958 f)] ++ ws_3)) (va_runV (As := [.int p1, .int 12]) (rest := [.long x_5]) ⟨hx, hb, hml, hown, hts⟩ (m_of_12 l D ct S ws_3 ph xx mo mw ma mf m0 m1 mu mv u0 u1 iz mb th mn mpt mbg mwr mwk mlf men f G cx p1 _ hT h_mu h_mv h_u0 h_u1 hph hy1 hR hc) (cm_V 2 hts kc_X11_of ki_RX11 kl_RX11_209 kv_X11_of kx_X11_of kd_X11_of ⟨Nat.le_of_ble_eq_true rfl, Nat.le_of_ble_eq_true rfl⟩) (ty_preE (wr := []) (wc := ([(rf_MO mo mw ma mf m0 m1 mu mv u0 u1 iz th mb mn mpt mbg mwr mwk mlf men), (rf_RW ct 0 mw 958 f)] ++ ws_3)) (ci := 11) (q0 := 0) hP hK hD hS hA hX rfl rfl) rfl rfl hl.1 rfl (lv_room (Nat.le_of_ble_eq_true rfl)) dX11_share_16 ⟨Nat.le_of_ble_eq_true rfl, Nat.le_of_ble_eq_true rfl⟩) hP hD hS hA (fun r_6 u H locs hw_7 hP hD hS => ?_)
  obtain ⟨ws_8, rfl⟩ : ∃ z, z = u := ⟨_, rfl⟩
  obtain ⟨hT, rfl⟩ := hw_7
  have hP : va_P D vwCl ([(rf_MO mo mw ma mf m0 m1 mu mv u0 u1 iz th mb mn mpt mbg mwr mwk mlf men), (rf_RW ct 0 mw 958 f)] ++ ws_8) H := hP
  have hD : va_D A ([(rf_MO mo mw ma mf m0 m1 mu mv u0 u1 iz th mb mn mpt mbg mwr mwk mlf men), (rf_RW ct 0 mw 958 f)] ++ ws_8) := hD
  refine lv_i2l hx hb dX11_share_19 rfl ?_
  refine lv_ldiv hx hb dX11_share_20 (rf_nzl (by have := rf_qp hR hc; omega)) ?_
  refine lv_topl (fun x_9 _ => ?_)
  refine lv_l2i hx hb dX11_share_21 rfl ?_
  refine lv_topi (fun x_10 _ => ?_)
  exact W.iret (v := x_10) hx hb hr (fun t ht hW => ⟨⟨x_10, ws_8, rfl, hT, by rw [ht]; exact hP, by rw [hAe]; exact hD⟩, hS.F ht⟩) hS.2.2 dX11_share_22
theorem dX11_wantedOf_0 : decode cX11_wantedOf 0 = .ok (.aload_n 0, 1) := by decide +kernel
theorem dX11_wantedOf_1 : decode cX11_wantedOf 1 = .ok (.iload_n 1, 1) := by decide +kernel
theorem dX11_wantedOf_2 : decode cX11_wantedOf 2 = .ok (.iconst 0, 1) := by decide +kernel
theorem dX11_wantedOf_3 : decode cX11_wantedOf 3 = .ok (.invokevirtual 228, 3) := by decide +kernel
theorem dX11_wantedOf_6 : decode cX11_wantedOf 6 = .ok (.istore_n 2, 1) := by decide +kernel
theorem dX11_wantedOf_7 : decode cX11_wantedOf 7 = .ok (.iload_n 2, 1) := by decide +kernel
theorem dX11_wantedOf_8 : decode cX11_wantedOf 8 = .ok (.ifCond .ne 10, 3) := by decide +kernel
theorem dX11_wantedOf_11 : decode cX11_wantedOf 11 = .ok (.aload_n 0, 1) := by decide +kernel
theorem dX11_wantedOf_12 : decode cX11_wantedOf 12 = .ok (.iload_n 1, 1) := by decide +kernel
theorem dX11_wantedOf_13 : decode cX11_wantedOf 13 = .ok (.iconst 1, 1) := by decide +kernel
theorem dX11_wantedOf_14 : decode cX11_wantedOf 14 = .ok (.invokevirtual 228, 3) := by decide +kernel
theorem dX11_wantedOf_17 : decode cX11_wantedOf 17 = .ok (.ireturn, 1) := by decide +kernel
theorem dX11_wantedOf_18 : decode cX11_wantedOf 18 = .ok (.iload_n 2, 1) := by decide +kernel
theorem dX11_wantedOf_19 : decode cX11_wantedOf 19 = .ok (.iconst 3, 1) := by decide +kernel
theorem dX11_wantedOf_20 : decode cX11_wantedOf 20 = .ok (.if_icmp .ne 5, 3) := by decide +kernel
theorem dX11_wantedOf_23 : decode cX11_wantedOf 23 = .ok (.iconst 0, 1) := by decide +kernel
theorem dX11_wantedOf_24 : decode cX11_wantedOf 24 = .ok (.ireturn, 1) := by decide +kernel
theorem dX11_wantedOf_25 : decode cX11_wantedOf 25 = .ok (.iload_n 2, 1) := by decide +kernel
theorem dX11_wantedOf_26 : decode cX11_wantedOf 26 = .ok (.iconst 2, 1) := by decide +kernel
theorem dX11_wantedOf_27 : decode cX11_wantedOf 27 = .ok (.if_icmp .ne 11, 3) := by decide +kernel
theorem dX11_wantedOf_30 : decode cX11_wantedOf 30 = .ok (.aload_n 0, 1) := by decide +kernel
theorem dX11_wantedOf_31 : decode cX11_wantedOf 31 = .ok (.iload_n 1, 1) := by decide +kernel
theorem dX11_wantedOf_32 : decode cX11_wantedOf 32 = .ok (.iconst 1, 1) := by decide +kernel
theorem dX11_wantedOf_33 : decode cX11_wantedOf 33 = .ok (.invokevirtual 228, 3) := by decide +kernel
theorem dX11_wantedOf_36 : decode cX11_wantedOf 36 = .ok (.ineg, 1) := by decide +kernel
theorem dX11_wantedOf_37 : decode cX11_wantedOf 37 = .ok (.ireturn, 1) := by decide +kernel
theorem dX11_wantedOf_38 : decode cX11_wantedOf 38 = .ok (.aload_n 0, 1) := by decide +kernel
theorem dX11_wantedOf_39 : decode cX11_wantedOf 39 = .ok (.iload_n 1, 1) := by decide +kernel
theorem dX11_wantedOf_40 : decode cX11_wantedOf 40 = .ok (.iconst 1, 1) := by decide +kernel
theorem dX11_wantedOf_41 : decode cX11_wantedOf 41 = .ok (.invokevirtual 228, 3) := by decide +kernel
theorem dX11_wantedOf_44 : decode cX11_wantedOf 44 = .ok (.aload_n 0, 1) := by decide +kernel
theorem dX11_wantedOf_45 : decode cX11_wantedOf 45 = .ok (.iload_n 1, 1) := by decide +kernel
theorem dX11_wantedOf_46 : decode cX11_wantedOf 46 = .ok (.aload_n 0, 1) := by decide +kernel
theorem dX11_wantedOf_47 : decode cX11_wantedOf 47 = .ok (.iload_n 1, 1) := by decide +kernel
theorem dX11_wantedOf_48 : decode cX11_wantedOf 48 = .ok (.bipush 6, 2) := by decide +kernel
theorem dX11_wantedOf_50 : decode cX11_wantedOf 50 = .ok (.invokevirtual 209, 3) := by decide +kernel
theorem dX11_wantedOf_53 : decode cX11_wantedOf 53 = .ok (.invokevirtual 231, 3) := by decide +kernel
theorem dX11_wantedOf_56 : decode cX11_wantedOf 56 = .ok (.isub, 1) := by decide +kernel
theorem dX11_wantedOf_57 : decode cX11_wantedOf 57 = .ok (.aload_n 0, 1) := by decide +kernel
theorem dX11_wantedOf_58 : decode cX11_wantedOf 58 = .ok (.iload_n 1, 1) := by decide +kernel
theorem dX11_wantedOf_59 : decode cX11_wantedOf 59 = .ok (.bipush 8, 2) := by decide +kernel
theorem dX11_wantedOf_61 : decode cX11_wantedOf 61 = .ok (.invokevirtual 209, 3) := by decide +kernel
theorem dX11_wantedOf_64 : decode cX11_wantedOf 64 = .ok (.isub, 1) := by decide +kernel
theorem dX11_wantedOf_65 : decode cX11_wantedOf 65 = .ok (.sipush 1000, 3) := by decide +kernel
theorem dX11_wantedOf_68 : decode cX11_wantedOf 68 = .ok (.imul, 1) := by decide +kernel
theorem dX11_wantedOf_69 : decode cX11_wantedOf 69 = .ok (.aload_n 0, 1) := by decide +kernel
theorem dX11_wantedOf_70 : decode cX11_wantedOf 70 = .ok (.iload_n 1, 1) := by decide +kernel
theorem dX11_wantedOf_71 : decode cX11_wantedOf 71 = .ok (.bipush 13, 2) := by decide +kernel
theorem dX11_wantedOf_73 : decode cX11_wantedOf 73 = .ok (.invokevirtual 209, 3) := by decide +kernel
theorem dX11_wantedOf_76 : decode cX11_wantedOf 76 = .ok (.idiv, 1) := by decide +kernel
theorem dX11_wantedOf_77 : decode cX11_wantedOf 77 = .ok (.istore_n 3, 1) := by decide +kernel
theorem dX11_wantedOf_78 : decode cX11_wantedOf 78 = .ok (.iconst 0, 1) := by decide +kernel
theorem dX11_wantedOf_79 : decode cX11_wantedOf 79 = .ok (.sipush 5000, 3) := by decide +kernel
theorem dX11_wantedOf_82 : decode cX11_wantedOf 82 = .ok (.iload_n 3, 1) := by decide +kernel
theorem dX11_wantedOf_83 : decode cX11_wantedOf 83 = .ok (.invokestatic 184, 3) := by decide +kernel
theorem dX11_wantedOf_86 : decode cX11_wantedOf 86 = .ok (.invokestatic 225, 3) := by decide +kernel
theorem dX11_wantedOf_89 : decode cX11_wantedOf 89 = .ok (.ireturn, 1) := by decide +kernel
set_option maxRecDepth 100000 in
set_option maxHeartbeats 4000000 in
theorem m_X11_wantedOf (l : Launch) (D : va_G) (ct : Nat → ClassId) (S : ty_S) (ws : va_W) (ph : va_W → Prop) (xx : Nat → Nat → Nat → Prop) (mo : Nat) (mw : Nat) (ma : Nat) (mf : Nat) (m0 : Nat) (m1 : Nat) (mu : Nat) (mv : Nat) (u0 : Nat) (u1 : Nat) (iz : Nat) (mb : Nat) (th : Int32) (mn : Int32) (mpt : Int32) (mbg : Int32) (mwr : Int32) (mwk : Int32) (mlf : Int32) (men : Int32) (f : Nat → Int32) (G : Nat → Int32) (cx : Int) (p1 : Int32) (sz : Nat) (hT : ty_V ct S ph ws) (h_mu : S mu = some (.inr (1, 42))) (h_mv : S mv = some (.inr (1, 42))) (h_u0 : S u0 = some (.inr (1, 42))) (h_u1 : S u1 = some (.inr (1, 42))) (hph : ty_C ph xx) (hy1 : ty_y1 xx) (hR : rf_R G cx f) (hc : 0 ≤ p1.toInt ∧ p1.toInt < (G 9).toInt) (ho : rf_on G f p1) : Met l yX11_wantedOf (ws_ yX11_wantedOf cX11_wantedOf 4 (some .int)) ({ frames := 2, cells := 0, slots := 0, locals := 53 } : Room) (va_Pc [.ref mo, .int p1] (cmP D ct sz ([(rf_MO mo mw ma mf m0 m1 mu mv u0 u1 iz th mb mn mpt mbg mwr mwk mlf men), (rf_RW ct 0 mw 958 f)] ++ ws))) (va_Qi (fun (r : Int32) (u9 : va_W) => ty_V ct S ph u9 ∧ -5000 ≤ r.toInt ∧ r.toInt ≤ 5000) (cmB D ([(rf_MO mo mw ma mf m0 m1 mu mv u0 u1 iz th mb mn mpt mbg mwr mwk mlf men), (rf_RW ct 0 mw 958 f)] ++ ws) sz (fun (u9 : va_W) => ([(rf_MO mo mw ma mf m0 m1 mu mv u0 u1 iz th mb mn mpt mbg mwr mwk mlf men), (rf_RW ct 0 mw 958 f)] ++ u9))) (va_A ([(rf_MO mo mw ma mf m0 m1 mu mv u0 u1 iz th mb mn mpt mbg mwr mwk mlf men), (rf_RW ct 0 mw 958 f)] ++ ws) sz)) 0 0 (va_A ([(rf_MO mo mw ma mf m0 m1 mu mv u0 u1 iz th mb mn mpt mbg mwr mwk mlf men), (rf_RW ct 0 mw 958 f)] ++ ws) sz) := by
  refine Met.ofW (cc := cX11_wantedOf) (maxL := 4) (ret := (some .int)) (by decide) rfl ?_
  intro p e s m args below meth c s₁ B hml hv
  obtain ⟨rfl, hsz, hP, hK, hD0, hX⟩ := hv
  have hx := B.exec
  have hb := B.bytes
  have hr := B.returns
  have hts := ws_all (atoms_spec (ws := ws_ yX11_wantedOf cX11_wantedOf 4 (some .int)) B.pre)
  have hown : s.vm.findClass RX11 = some m.cls := findClass_of_methodNamed B.named
  have hlocks := B.notSynchronized
  subst hsz
  have hD := hD0.self (sz := s.heap.size)
  generalize hAe : va_A ([(rf_MO mo mw ma mf m0 m1 mu mv u0 u1 iz th mb mn mpt mbg mwr mwk mlf men), (rf_RW ct 0 mw 958 f)] ++ ws) s.heap.size = A at hD hX ⊢
  have hA : ∀ q : Nat, s.heap.size ≤ q → A q := fun q h => by rw [← hAe]; exact Or.inr h
  have hS : va_S A s.heap s.heap [] := va_S.rf
  have hl := lv_entry ([.ref mo, .int p1]) (n := 4) (Nat.le_of_ble_eq_true rfl)
  rw [lg_entry_eq]
  generalize (lg_sl ([.ref mo, .int p1]) ++ List.replicate (4 - (lg_sl ([.ref mo, .int p1])).length) Slot.unset).toArray = ls at hl ⊢
  have hl : lv_has ls 4 [(0, .ref mo), (1, .int p1)] := hl
  refine lv_aload_n hx hb dX11_wantedOf_0 rfl (lv_at hl 0 rfl) ?_
  refine lv_iload_n hx hb dX11_wantedOf_1 rfl (lv_at hl 1 rfl) ?_
  refine lv_iconst (v := 0) hx hb dX11_wantedOf_2 (by decide) ?_
  refine ty_ki (wr := []) (wc := ([(rf_MO mo mw ma mf m0 m1 mu mv u0 u1 iz th mb mn mpt mbg mwr mwk mlf men), (rf_RW ct 0 mw 958 f)] ++ ws)) (va_runV (As := [.int p1, .int 0]) (rest := []) ⟨hx, hb, hml, hown, hts⟩ (m_step_0 l D ct S ws ph xx mo mw ma mf m0 m1 mu mv u0 u1 iz mb th mn mpt mbg mwr mwk mlf men f G cx p1 _ hT h_mu h_mv h_u0 h_u1 hph hy1 hR hc ho) (cm_V 2 hts kc_X11_step ki_RX11 kl_RX11_228 kv_X11_step kx_X11_step kd_X11_step ⟨Nat.le_of_ble_eq_true rfl, Nat.le_of_ble_eq_true rfl⟩) (ty_preE (wr := []) (wc := ([(rf_MO mo mw ma mf m0 m1 mu mv u0 u1 iz th mb mn mpt mbg mwr mwk mlf men), (rf_RW ct 0 mw 958 f)] ++ ws)) (ci := 11) (q0 := 0) hP hK hD hS hA hX rfl rfl) rfl rfl hl.1 rfl (lv_room (Nat.le_of_ble_eq_true rfl)) dX11_wantedOf_3 ⟨Nat.le_of_ble_eq_true rfl, Nat.le_of_ble_eq_true rfl⟩) hP hD hS hA (fun r_1 u H locs hw_2 hP hD hS => ?_)
  obtain ⟨ws_3, rfl⟩ : ∃ z, z = u := ⟨_, rfl⟩
  obtain ⟨hT, rfl⟩ := hw_2
  have hP : va_P D vwCl ([(rf_MO mo mw ma mf m0 m1 mu mv u0 u1 iz th mb mn mpt mbg mwr mwk mlf men), (rf_RW ct 0 mw 958 f)] ++ ws_3) H := hP
  have hD : va_D A ([(rf_MO mo mw ma mf m0 m1 mu mv u0 u1 iz th mb mn mpt mbg mwr mwk mlf men), (rf_RW ct 0 mw 958 f)] ++ ws_3) := hD
  refine lv_istore_n (lv' := [(2, .int (rf_st3 f p1 0)), (0, .ref mo), (1, .int p1)]) hx hb dX11_wantedOf_6 rfl hl (by decide) rfl (fun ls hl => ?_)
  refine lv_iload_n hx hb dX11_wantedOf_7 rfl (lv_at hl 0 rfl) ?_
  refine lv_if_ne (tgt := 18) hx hb dX11_wantedOf_8 (by decide) (fun hc_4 => ?_) (fun hc_4 => ?_)
  · refine lv_iload_n hx hb dX11_wantedOf_18 rfl (lv_at hl 0 rfl) ?_
    refine lv_iconst (v := 3) hx hb dX11_wantedOf_19 (by decide) ?_
    refine lv_icmp_ne (tgt := 25) hx hb dX11_wantedOf_20 (by decide) (fun hc_5 => ?_) (fun hc_5 => ?_)
    · refine lv_iload_n hx hb dX11_wantedOf_25 rfl (lv_at hl 0 rfl) ?_
      refine lv_iconst (v := 2) hx hb dX11_wantedOf_26 (by decide) ?_
      refine lv_icmp_ne (tgt := 38) hx hb dX11_wantedOf_27 (by decide) (fun hc_6 => ?_) (fun hc_6 => ?_)
      · refine lv_aload_n hx hb dX11_wantedOf_38 rfl (lv_at hl 1 rfl) ?_
        refine lv_iload_n hx hb dX11_wantedOf_39 rfl (lv_at hl 2 rfl) ?_
        refine lv_iconst (v := 1) hx hb dX11_wantedOf_40 (by decide) ?_
        refine ty_ki (wr := []) (wc := ([(rf_MO mo mw ma mf m0 m1 mu mv u0 u1 iz th mb mn mpt mbg mwr mwk mlf men), (rf_RW ct 0 mw 958 f)] ++ ws_3)) (va_runV (As := [.int p1, .int 1]) (rest := []) ⟨hx, hb, hml, hown, hts⟩ (m_step_1 l D ct S ws_3 ph xx mo mw ma mf m0 m1 mu mv u0 u1 iz mb th mn mpt mbg mwr mwk mlf men f G cx p1 _ hT h_mu h_mv h_u0 h_u1 hph hy1 hR hc ho) (cm_V 2 hts kc_X11_step ki_RX11 kl_RX11_228 kv_X11_step kx_X11_step kd_X11_step ⟨Nat.le_of_ble_eq_true rfl, Nat.le_of_ble_eq_true rfl⟩) (ty_preE (wr := []) (wc := ([(rf_MO mo mw ma mf m0 m1 mu mv u0 u1 iz th mb mn mpt mbg mwr mwk mlf men), (rf_RW ct 0 mw 958 f)] ++ ws_3)) (ci := 11) (q0 := 0) hP hK hD hS hA hX rfl rfl) rfl rfl hl.1 rfl (lv_room (Nat.le_of_ble_eq_true rfl)) dX11_wantedOf_41 ⟨Nat.le_of_ble_eq_true rfl, Nat.le_of_ble_eq_true rfl⟩) hP hD hS hA (fun r_7 u H locs hw_8 hP hD hS => ?_)
        obtain ⟨ws_9, rfl⟩ : ∃ z, z = u := ⟨_, rfl⟩
        obtain ⟨hT, rfl⟩ := hw_8
        have hP : va_P D vwCl ([(rf_MO mo mw ma mf m0 m1 mu mv u0 u1 iz th mb mn mpt mbg mwr mwk mlf men), (rf_RW ct 0 mw 958 f)] ++ ws_9) H := hP
        have hD : va_D A ([(rf_MO mo mw ma mf m0 m1 mu mv u0 u1 iz th mb mn mpt mbg mwr mwk mlf men), (rf_RW ct 0 mw 958 f)] ++ ws_9) := hD
        refine lv_aload_n hx hb dX11_wantedOf_44 rfl (lv_at hl 1 rfl) ?_
        refine lv_iload_n hx hb dX11_wantedOf_45 rfl (lv_at hl 2 rfl) ?_
        refine lv_aload_n hx hb dX11_wantedOf_46 rfl (lv_at hl 1 rfl) ?_
        refine lv_iload_n hx hb dX11_wantedOf_47 rfl (lv_at hl 2 rfl) ?_
        refine lv_bipush (v := 6) hx hb dX11_wantedOf_48 (by decide) ?_
        refine ty_ki (wr := []) (wc := ([(rf_MO mo mw ma mf m0 m1 mu mv u0 u1 iz th mb mn mpt mbg mwr mwk mlf men), (rf_RW ct 0 mw 958 f)] ++ ws_9)) (va_runV (As := [.int p1, .int 6]) (rest := [.int p1, .ref mo, .int (rf_st3 f p1 1)]) ⟨hx, hb, hml, hown, hts⟩ (m_of_6 l D ct S ws_9 ph xx mo mw ma mf m0 m1 mu mv u0 u1 iz mb th mn mpt mbg mwr mwk mlf men f G cx p1 _ hT h_mu h_mv h_u0 h_u1 hph hy1 hR hc) (cm_V 2 hts kc_X11_of ki_RX11 kl_RX11_209 kv_X11_of kx_X11_of kd_X11_of ⟨Nat.le_of_ble_eq_true rfl, Nat.le_of_ble_eq_true rfl⟩) (ty_preE (wr := []) (wc := ([(rf_MO mo mw ma mf m0 m1 mu mv u0 u1 iz th mb mn mpt mbg mwr mwk mlf men), (rf_RW ct 0 mw 958 f)] ++ ws_9)) (ci := 11) (q0 := 0) hP hK hD hS hA hX rfl rfl) rfl rfl hl.1 rfl (lv_room (Nat.le_of_ble_eq_true rfl)) dX11_wantedOf_50 ⟨Nat.le_of_ble_eq_true rfl, Nat.le_of_ble_eq_true rfl⟩) hP hD hS hA (fun r_10 u H locs hw_11 hP hD hS => ?_)
        obtain ⟨ws_12, rfl⟩ : ∃ z, z = u := ⟨_, rfl⟩
        obtain ⟨hT, rfl⟩ := hw_11
        have hP : va_P D vwCl ([(rf_MO mo mw ma mf m0 m1 mu mv u0 u1 iz th mb mn mpt mbg mwr mwk mlf men), (rf_RW ct 0 mw 958 f)] ++ ws_12) H := hP
        have hD : va_D A ([(rf_MO mo mw ma mf m0 m1 mu mv u0 u1 iz th mb mn mpt mbg mwr mwk mlf men), (rf_RW ct 0 mw 958 f)] ++ ws_12) := hD
        refine ty_ki (wr := []) (wc := ([(rf_MO mo mw ma mf m0 m1 mu mv u0 u1 iz th mb mn mpt mbg mwr mwk mlf men), (rf_RW ct 0 mw 958 f)] ++ ws_12)) (va_runV (As := [.int p1, .int (rf_of f p1 6)]) (rest := [.int (rf_st3 f p1 1)]) ⟨hx, hb, hml, hown, hts⟩ (m_X11_restAt l D ct S ws_12 ph xx mo mw ma mf m0 m1 mu mv u0 u1 iz mb th mn mpt mbg mwr mwk mlf men f G cx p1 (rf_of f p1 6) _ hT h_mu h_mv h_u0 h_u1 hph hy1 hR hc (rf_qp hR hc).1.1.1) (cm_V 2 hts kc_X11_restAt ki_RX11 kl_RX11_231 kv_X11_restAt kx_X11_restAt kd_X11_restAt ⟨Nat.le_of_ble_eq_true rfl, Nat.le_of_ble_eq_true rfl⟩) (ty_preE (wr := []) (wc := ([(rf_MO mo mw ma mf m0 m1 mu mv u0 u1 iz th mb mn mpt mbg mwr mwk mlf men), (rf_RW ct 0 mw 958 f)] ++ ws_12)) (ci := 11) (q0 := 0) hP hK hD hS hA hX rfl rfl) rfl rfl hl.1 rfl (lv_room (Nat.le_of_ble_eq_true rfl)) dX11_wantedOf_53 ⟨Nat.le_of_ble_eq_true rfl, Nat.le_of_ble_eq_true rfl⟩) hP hD hS hA (fun r_13 u H locs hw_14 hP hD hS => ?_)
        obtain ⟨ws_15, rfl⟩ : ∃ z, z = u := ⟨_, rfl⟩
        have hT := hw_14
        have hP : va_P D vwCl ([(rf_MO mo mw ma mf m0 m1 mu mv u0 u1 iz th mb mn mpt mbg mwr mwk mlf men), (rf_RW ct 0 mw 958 f)] ++ ws_15) H := hP
        have hD : va_D A ([(rf_MO mo mw ma mf m0 m1 mu mv u0 u1 iz th mb mn mpt mbg mwr mwk mlf men), (rf_RW ct 0 mw 958 f)] ++ ws_15) := hD
        refine lv_isub hx hb dX11_wantedOf_56 ?_
        refine lv_topi (fun x_16 _ => ?_)
        refine lv_aload_n hx hb dX11_wantedOf_57 rfl (lv_at hl 1 rfl) ?_
        refine lv_iload_n hx hb dX11_wantedOf_58 rfl (lv_at hl 2 rfl) ?_
        refine lv_bipush (v := 8) hx hb dX11_wantedOf_59 (by decide) ?_
        refine ty_ki (wr := []) (wc := ([(rf_MO mo mw ma mf m0 m1 mu mv u0 u1 iz th mb mn mpt mbg mwr mwk mlf men), (rf_RW ct 0 mw 958 f)] ++ ws_15)) (va_runV (As := [.int p1, .int 8]) (rest := [.int x_16]) ⟨hx, hb, hml, hown, hts⟩ (m_of_8 l D ct S ws_15 ph xx mo mw ma mf m0 m1 mu mv u0 u1 iz mb th mn mpt mbg mwr mwk mlf men f G cx p1 _ hT h_mu h_mv h_u0 h_u1 hph hy1 hR hc) (cm_V 2 hts kc_X11_of ki_RX11 kl_RX11_209 kv_X11_of kx_X11_of kd_X11_of ⟨Nat.le_of_ble_eq_true rfl, Nat.le_of_ble_eq_true rfl⟩) (ty_preE (wr := []) (wc := ([(rf_MO mo mw ma mf m0 m1 mu mv u0 u1 iz th mb mn mpt mbg mwr mwk mlf men), (rf_RW ct 0 mw 958 f)] ++ ws_15)) (ci := 11) (q0 := 0) hP hK hD hS hA hX rfl rfl) rfl rfl hl.1 rfl (lv_room (Nat.le_of_ble_eq_true rfl)) dX11_wantedOf_61 ⟨Nat.le_of_ble_eq_true rfl, Nat.le_of_ble_eq_true rfl⟩) hP hD hS hA (fun r_17 u H locs hw_18 hP hD hS => ?_)
        obtain ⟨ws_19, rfl⟩ : ∃ z, z = u := ⟨_, rfl⟩
        obtain ⟨hT, rfl⟩ := hw_18
        have hP : va_P D vwCl ([(rf_MO mo mw ma mf m0 m1 mu mv u0 u1 iz th mb mn mpt mbg mwr mwk mlf men), (rf_RW ct 0 mw 958 f)] ++ ws_19) H := hP
        have hD : va_D A ([(rf_MO mo mw ma mf m0 m1 mu mv u0 u1 iz th mb mn mpt mbg mwr mwk mlf men), (rf_RW ct 0 mw 958 f)] ++ ws_19) := hD
        refine lv_isub hx hb dX11_wantedOf_64 ?_
        refine lv_topi (fun x_20 _ => ?_)
        refine lv_sipush (v := 1000) hx hb dX11_wantedOf_65 (by decide) ?_
        refine lv_imul hx hb dX11_wantedOf_68 ?_
        refine lv_topi (fun x_21 _ => ?_)
        refine lv_aload_n hx hb dX11_wantedOf_69 rfl (lv_at hl 1 rfl) ?_
        refine lv_iload_n hx hb dX11_wantedOf_70 rfl (lv_at hl 2 rfl) ?_
        refine lv_bipush (v := 13) hx hb dX11_wantedOf_71 (by decide) ?_
        refine ty_ki (wr := []) (wc := ([(rf_MO mo mw ma mf m0 m1 mu mv u0 u1 iz th mb mn mpt mbg mwr mwk mlf men), (rf_RW ct 0 mw 958 f)] ++ ws_19)) (va_runV (As := [.int p1, .int 13]) (rest := [.int x_21]) ⟨hx, hb, hml, hown, hts⟩ (m_of_13 l D ct S ws_19 ph xx mo mw ma mf m0 m1 mu mv u0 u1 iz mb th mn mpt mbg mwr mwk mlf men f G cx p1 _ hT h_mu h_mv h_u0 h_u1 hph hy1 hR hc) (cm_V 2 hts kc_X11_of ki_RX11 kl_RX11_209 kv_X11_of kx_X11_of kd_X11_of ⟨Nat.le_of_ble_eq_true rfl, Nat.le_of_ble_eq_true rfl⟩) (ty_preE (wr := []) (wc := ([(rf_MO mo mw ma mf m0 m1 mu mv u0 u1 iz th mb mn mpt mbg mwr mwk mlf men), (rf_RW ct 0 mw 958 f)] ++ ws_19)) (ci := 11) (q0 := 0) hP hK hD hS hA hX rfl rfl) rfl rfl hl.1 rfl (lv_room (Nat.le_of_ble_eq_true rfl)) dX11_wantedOf_73 ⟨Nat.le_of_ble_eq_true rfl, Nat.le_of_ble_eq_true rfl⟩) hP hD hS hA (fun r_22 u H locs hw_23 hP hD hS => ?_)
        obtain ⟨ws_24, rfl⟩ : ∃ z, z = u := ⟨_, rfl⟩
        obtain ⟨hT, rfl⟩ := hw_23
        have hP : va_P D vwCl ([(rf_MO mo mw ma mf m0 m1 mu mv u0 u1 iz th mb mn mpt mbg mwr mwk mlf men), (rf_RW ct 0 mw 958 f)] ++ ws_24) H := hP
        have hD : va_D A ([(rf_MO mo mw ma mf m0 m1 mu mv u0 u1 iz th mb mn mpt mbg mwr mwk mlf men), (rf_RW ct 0 mw 958 f)] ++ ws_24) := hD
        refine lv_idiv hx hb dX11_wantedOf_76 (rf_nz (rf_stat hR hc).2.1.1) ?_
        refine lv_topi (fun x_25 _ => ?_)
        refine lv_istore_n (lv' := [(3, .int x_25), (2, .int (rf_st3 f p1 0)), (0, .ref mo), (1, .int p1)]) hx hb dX11_wantedOf_77 rfl hl (by decide) rfl (fun ls hl => ?_)
        refine lv_iconst (v := 0) hx hb dX11_wantedOf_78 (by decide) ?_
        refine lv_sipush (v := 5000) hx hb dX11_wantedOf_79 (by decide) ?_
        refine lv_iload_n hx hb dX11_wantedOf_82 rfl (lv_at hl 0 rfl) ?_
        refine va_mmin hx hb (hml.trans hl.1.symm) hown (hts _ kl_RX11_184) (hts _ jm_min_s) (hts _ ki_RJ9) (hts _ jm_min_c) (Nat.le_of_ble_eq_true rfl) (Nat.le_of_ble_eq_true rfl) (Nat.le_of_ble_eq_true rfl) (Nat.le_of_ble_eq_true rfl) dX11_wantedOf_83 ?_
        refine va_mmax hx hb (hml.trans hl.1.symm) hown (hts _ kl_RX11_225) (hts _ jm_max_s) (hts _ ki_RJ9) (hts _ jm_max_c) (Nat.le_of_ble_eq_true rfl) (Nat.le_of_ble_eq_true rfl) (Nat.le_of_ble_eq_true rfl) (Nat.le_of_ble_eq_true rfl) dX11_wantedOf_86 ?_
        exact W.iret (v := (if 0 < (if x_25 < 5000 then x_25 else 5000) then (if x_25 < 5000 then x_25 else 5000) else 0)) hx hb hr (fun t ht hW => ⟨⟨(if 0 < (if x_25 < 5000 then x_25 else 5000) then (if x_25 < 5000 then x_25 else 5000) else 0), ws_24, rfl, ⟨hT, (by have := @rf_mm x_25; omega)⟩, by rw [ht]; exact hP, by rw [hAe]; exact hD⟩, hS.F ht⟩) hS.2.2 dX11_wantedOf_89
      · refine lv_aload_n hx hb dX11_wantedOf_30 rfl (lv_at hl 1 rfl) ?_
        refine lv_iload_n hx hb dX11_wantedOf_31 rfl (lv_at hl 2 rfl) ?_
        refine lv_iconst (v := 1) hx hb dX11_wantedOf_32 (by decide) ?_
        refine ty_ki (wr := []) (wc := ([(rf_MO mo mw ma mf m0 m1 mu mv u0 u1 iz th mb mn mpt mbg mwr mwk mlf men), (rf_RW ct 0 mw 958 f)] ++ ws_3)) (va_runV (As := [.int p1, .int 1]) (rest := []) ⟨hx, hb, hml, hown, hts⟩ (m_step_1 l D ct S ws_3 ph xx mo mw ma mf m0 m1 mu mv u0 u1 iz mb th mn mpt mbg mwr mwk mlf men f G cx p1 _ hT h_mu h_mv h_u0 h_u1 hph hy1 hR hc ho) (cm_V 2 hts kc_X11_step ki_RX11 kl_RX11_228 kv_X11_step kx_X11_step kd_X11_step ⟨Nat.le_of_ble_eq_true rfl, Nat.le_of_ble_eq_true rfl⟩) (ty_preE (wr := []) (wc := ([(rf_MO mo mw ma mf m0 m1 mu mv u0 u1 iz th mb mn mpt mbg mwr mwk mlf men), (rf_RW ct 0 mw 958 f)] ++ ws_3)) (ci := 11) (q0 := 0) hP hK hD hS hA hX rfl rfl) rfl rfl hl.1 rfl (lv_room (Nat.le_of_ble_eq_true rfl)) dX11_wantedOf_33 ⟨Nat.le_of_ble_eq_true rfl, Nat.le_of_ble_eq_true rfl⟩) hP hD hS hA (fun r_26 u H locs hw_27 hP hD hS => ?_)
        obtain ⟨ws_28, rfl⟩ : ∃ z, z = u := ⟨_, rfl⟩
        obtain ⟨hT, rfl⟩ := hw_27
        have hP : va_P D vwCl ([(rf_MO mo mw ma mf m0 m1 mu mv u0 u1 iz th mb mn mpt mbg mwr mwk mlf men), (rf_RW ct 0 mw 958 f)] ++ ws_28) H := hP
        have hD : va_D A ([(rf_MO mo mw ma mf m0 m1 mu mv u0 u1 iz th mb mn mpt mbg mwr mwk mlf men), (rf_RW ct 0 mw 958 f)] ++ ws_28) := hD
        refine lv_ineg hx hb dX11_wantedOf_36 ?_
        exact W.iret (v := (- (rf_st3 f p1 1))) hx hb hr (fun t ht hW => ⟨⟨(- (rf_st3 f p1 1)), ws_28, rfl, ⟨hT, (rf_neg (rf_stb hR ho (by omega)))⟩, by rw [ht]; exact hP, by rw [hAe]; exact hD⟩, hS.F ht⟩) hS.2.2 dX11_wantedOf_37
    · refine lv_iconst (v := 0) hx hb dX11_wantedOf_23 (by decide) ?_
      exact W.iret (v := 0) hx hb hr (fun t ht hW => ⟨⟨0, ws_3, rfl, ⟨hT, (by decide)⟩, by rw [ht]; exact hP, by rw [hAe]; exact hD⟩, hS.F ht⟩) hS.2.2 dX11_wantedOf_24
  · refine lv_aload_n hx hb dX11_wantedOf_11 rfl (lv_at hl 1 rfl) ?_
    refine lv_iload_n hx hb dX11_wantedOf_12 rfl (lv_at hl 2 rfl) ?_
    refine lv_iconst (v := 1) hx hb dX11_wantedOf_13 (by decide) ?_
    refine ty_ki (wr := []) (wc := ([(rf_MO mo mw ma mf m0 m1 mu mv u0 u1 iz th mb mn mpt mbg mwr mwk mlf men), (rf_RW ct 0 mw 958 f)] ++ ws_3)) (va_runV (As := [.int p1, .int 1]) (rest := []) ⟨hx, hb, hml, hown, hts⟩ (m_step_1 l D ct S ws_3 ph xx mo mw ma mf m0 m1 mu mv u0 u1 iz mb th mn mpt mbg mwr mwk mlf men f G cx p1 _ hT h_mu h_mv h_u0 h_u1 hph hy1 hR hc ho) (cm_V 2 hts kc_X11_step ki_RX11 kl_RX11_228 kv_X11_step kx_X11_step kd_X11_step ⟨Nat.le_of_ble_eq_true rfl, Nat.le_of_ble_eq_true rfl⟩) (ty_preE (wr := []) (wc := ([(rf_MO mo mw ma mf m0 m1 mu mv u0 u1 iz th mb mn mpt mbg mwr mwk mlf men), (rf_RW ct 0 mw 958 f)] ++ ws_3)) (ci := 11) (q0 := 0) hP hK hD hS hA hX rfl rfl) rfl rfl hl.1 rfl (lv_room (Nat.le_of_ble_eq_true rfl)) dX11_wantedOf_14 ⟨Nat.le_of_ble_eq_true rfl, Nat.le_of_ble_eq_true rfl⟩) hP hD hS hA (fun r_29 u H locs hw_30 hP hD hS => ?_)
    obtain ⟨ws_31, rfl⟩ : ∃ z, z = u := ⟨_, rfl⟩
    obtain ⟨hT, rfl⟩ := hw_30
    have hP : va_P D vwCl ([(rf_MO mo mw ma mf m0 m1 mu mv u0 u1 iz th mb mn mpt mbg mwr mwk mlf men), (rf_RW ct 0 mw 958 f)] ++ ws_31) H := hP
    have hD : va_D A ([(rf_MO mo mw ma mf m0 m1 mu mv u0 u1 iz th mb mn mpt mbg mwr mwk mlf men), (rf_RW ct 0 mw 958 f)] ++ ws_31) := hD
    exact W.iret (v := (rf_st3 f p1 1)) hx hb hr (fun t ht hW => ⟨⟨(rf_st3 f p1 1), ws_31, rfl, ⟨hT, (by have := rf_stb hR ho (w := 1) (by omega); omega)⟩, by rw [ht]; exact hP, by rw [hAe]; exact hD⟩, hS.F ht⟩) hS.2.2 dX11_wantedOf_17
theorem dX11_currentOf_0 : decode cX11_currentOf 0 = .ok (.aload_n 0, 1) := by decide +kernel
theorem dX11_currentOf_1 : decode cX11_currentOf 1 = .ok (.iload_n 1, 1) := by decide +kernel
theorem dX11_currentOf_2 : decode cX11_currentOf 2 = .ok (.iconst 0, 1) := by decide +kernel
theorem dX11_currentOf_3 : decode cX11_currentOf 3 = .ok (.invokevirtual 209, 3) := by decide +kernel
theorem dX11_currentOf_6 : decode cX11_currentOf 6 = .ok (.iconst 1, 1) := by decide +kernel
theorem dX11_currentOf_7 : decode cX11_currentOf 7 = .ok (.if_icmp .eq 5, 3) := by decide +kernel
theorem dX11_currentOf_10 : decode cX11_currentOf 10 = .ok (.iconst 0, 1) := by decide +kernel
theorem dX11_currentOf_11 : decode cX11_currentOf 11 = .ok (.ireturn, 1) := by decide +kernel
theorem dX11_currentOf_12 : decode cX11_currentOf 12 = .ok (.aload_n 0, 1) := by decide +kernel
theorem dX11_currentOf_13 : decode cX11_currentOf 13 = .ok (.iload_n 1, 1) := by decide +kernel
theorem dX11_currentOf_14 : decode cX11_currentOf 14 = .ok (.invokevirtual 222, 3) := by decide +kernel
theorem dX11_currentOf_17 : decode cX11_currentOf 17 = .ok (.istore_n 2, 1) := by decide +kernel
theorem dX11_currentOf_18 : decode cX11_currentOf 18 = .ok (.aload_n 0, 1) := by decide +kernel
theorem dX11_currentOf_19 : decode cX11_currentOf 19 = .ok (.getfield 9, 3) := by decide +kernel
theorem dX11_currentOf_22 : decode cX11_currentOf 22 = .ok (.bipush 16, 2) := by decide +kernel
theorem dX11_currentOf_24 : decode cX11_currentOf 24 = .ok (.iaload, 1) := by decide +kernel
theorem dX11_currentOf_25 : decode cX11_currentOf 25 = .ok (.ifCond .eq 58, 3) := by decide +kernel
theorem dX11_currentOf_28 : decode cX11_currentOf 28 = .ok (.aload_n 0, 1) := by decide +kernel
theorem dX11_currentOf_29 : decode cX11_currentOf 29 = .ok (.iload_n 1, 1) := by decide +kernel
theorem dX11_currentOf_30 : decode cX11_currentOf 30 = .ok (.bipush 9, 2) := by decide +kernel
theorem dX11_currentOf_32 : decode cX11_currentOf 32 = .ok (.invokevirtual 209, 3) := by decide +kernel
theorem dX11_currentOf_35 : decode cX11_currentOf 35 = .ok (.aload_n 0, 1) := by decide +kernel
theorem dX11_currentOf_36 : decode cX11_currentOf 36 = .ok (.getfield 9, 3) := by decide +kernel
theorem dX11_currentOf_39 : decode cX11_currentOf 39 = .ok (.bipush 6, 2) := by decide +kernel
theorem dX11_currentOf_41 : decode cX11_currentOf 41 = .ok (.iaload, 1) := by decide +kernel
theorem dX11_currentOf_42 : decode cX11_currentOf 42 = .ok (.aload_n 0, 1) := by decide +kernel
theorem dX11_currentOf_43 : decode cX11_currentOf 43 = .ok (.getfield 9, 3) := by decide +kernel
theorem dX11_currentOf_46 : decode cX11_currentOf 46 = .ok (.bipush 16, 2) := by decide +kernel
theorem dX11_currentOf_48 : decode cX11_currentOf 48 = .ok (.iaload, 1) := by decide +kernel
theorem dX11_currentOf_49 : decode cX11_currentOf 49 = .ok (.isub, 1) := by decide +kernel
theorem dX11_currentOf_50 : decode cX11_currentOf 50 = .ok (.if_icmp .le 33, 3) := by decide +kernel
theorem dX11_currentOf_53 : decode cX11_currentOf 53 = .ok (.iload_n 2, 1) := by decide +kernel
theorem dX11_currentOf_54 : decode cX11_currentOf 54 = .ok (.iconst 0, 1) := by decide +kernel
theorem dX11_currentOf_55 : decode cX11_currentOf 55 = .ok (.aload_n 0, 1) := by decide +kernel
theorem dX11_currentOf_56 : decode cX11_currentOf 56 = .ok (.getfield 9, 3) := by decide +kernel
theorem dX11_currentOf_59 : decode cX11_currentOf 59 = .ok (.bipush 6, 2) := by decide +kernel
theorem dX11_currentOf_61 : decode cX11_currentOf 61 = .ok (.iaload, 1) := by decide +kernel
theorem dX11_currentOf_62 : decode cX11_currentOf 62 = .ok (.aload_n 0, 1) := by decide +kernel
theorem dX11_currentOf_63 : decode cX11_currentOf 63 = .ok (.iload_n 1, 1) := by decide +kernel
theorem dX11_currentOf_64 : decode cX11_currentOf 64 = .ok (.bipush 9, 2) := by decide +kernel
theorem dX11_currentOf_66 : decode cX11_currentOf 66 = .ok (.invokevirtual 209, 3) := by decide +kernel
theorem dX11_currentOf_69 : decode cX11_currentOf 69 = .ok (.isub, 1) := by decide +kernel
theorem dX11_currentOf_70 : decode cX11_currentOf 70 = .ok (.invokestatic 225, 3) := by decide +kernel
theorem dX11_currentOf_73 : decode cX11_currentOf 73 = .ok (.imul, 1) := by decide +kernel
theorem dX11_currentOf_74 : decode cX11_currentOf 74 = .ok (.aload_n 0, 1) := by decide +kernel
theorem dX11_currentOf_75 : decode cX11_currentOf 75 = .ok (.getfield 9, 3) := by decide +kernel
theorem dX11_currentOf_78 : decode cX11_currentOf 78 = .ok (.bipush 16, 2) := by decide +kernel
theorem dX11_currentOf_80 : decode cX11_currentOf 80 = .ok (.iaload, 1) := by decide +kernel
theorem dX11_currentOf_81 : decode cX11_currentOf 81 = .ok (.idiv, 1) := by decide +kernel
theorem dX11_currentOf_82 : decode cX11_currentOf 82 = .ok (.istore_n 2, 1) := by decide +kernel
theorem dX11_currentOf_83 : decode cX11_currentOf 83 = .ok (.iload_n 2, 1) := by decide +kernel
theorem dX11_currentOf_84 : decode cX11_currentOf 84 = .ok (.aload_n 0, 1) := by decide +kernel
theorem dX11_currentOf_85 : decode cX11_currentOf 85 = .ok (.iload_n 1, 1) := by decide +kernel
theorem dX11_currentOf_86 : decode cX11_currentOf 86 = .ok (.bipush 6, 2) := by decide +kernel
theorem dX11_currentOf_88 : decode cX11_currentOf 88 = .ok (.invokevirtual 209, 3) := by decide +kernel
theorem dX11_currentOf_91 : decode cX11_currentOf 91 = .ok (.ineg, 1) := by decide +kernel
theorem dX11_currentOf_92 : decode cX11_currentOf 92 = .ok (.invokestatic 225, 3) := by decide +kernel
theorem dX11_currentOf_95 : decode cX11_currentOf 95 = .ok (.ireturn, 1) := by decide +kernel
set_option maxRecDepth 100000 in
set_option maxHeartbeats 4000000 in
theorem m_X11_currentOf (l : Launch) (D : va_G) (ct : Nat → ClassId) (S : ty_S) (ws : va_W) (ph : va_W → Prop) (xx : Nat → Nat → Nat → Prop) (mo : Nat) (mw : Nat) (ma : Nat) (mf : Nat) (m0 : Nat) (m1 : Nat) (mu : Nat) (mv : Nat) (u0 : Nat) (u1 : Nat) (iz : Nat) (mb : Nat) (th : Int32) (mn : Int32) (mpt : Int32) (mbg : Int32) (mwr : Int32) (mwk : Int32) (mlf : Int32) (men : Int32) (f : Nat → Int32) (G : Nat → Int32) (p1 : Int32) (sz : Nat) (hT : ty_V ct S ph ws) (h_mu : S mu = some (.inr (1, 42))) (h_mv : S mv = some (.inr (1, 42))) (h_u0 : S u0 = some (.inr (1, 42))) (h_u1 : S u1 = some (.inr (1, 42))) (hph : ty_C ph xx) (hy1 : ty_y1 xx) (hR : rf_R G (-1) f) (hc : 0 ≤ p1.toInt ∧ p1.toInt < (G 9).toInt) : Met l yX11_currentOf (ws_ yX11_currentOf cX11_currentOf 3 (some .int)) ({ frames := 3, cells := 0, slots := 0, locals := 76 } : Room) (va_Pc [.ref mo, .int p1] (cmP D ct sz ([(rf_MO mo mw ma mf m0 m1 mu mv u0 u1 iz th mb mn mpt mbg mwr mwk mlf men), (rf_RW ct 0 mw 958 f)] ++ ws))) (va_Qi (fun (r : Int32) (u9 : va_W) => ty_V ct S ph u9 ∧ -((rf_of f p1 6).toInt) ≤ r.toInt ∧ r.toInt ≤ 5000) (cmB D ([(rf_MO mo mw ma mf m0 m1 mu mv u0 u1 iz th mb mn mpt mbg mwr mwk mlf men), (rf_RW ct 0 mw 958 f)] ++ ws) sz (fun (u9 : va_W) => ([(rf_MO mo mw ma mf m0 m1 mu mv u0 u1 iz th mb mn mpt mbg mwr mwk mlf men), (rf_RW ct 0 mw 958 f)] ++ u9))) (va_A ([(rf_MO mo mw ma mf m0 m1 mu mv u0 u1 iz th mb mn mpt mbg mwr mwk mlf men), (rf_RW ct 0 mw 958 f)] ++ ws) sz)) 0 0 (va_A ([(rf_MO mo mw ma mf m0 m1 mu mv u0 u1 iz th mb mn mpt mbg mwr mwk mlf men), (rf_RW ct 0 mw 958 f)] ++ ws) sz) := by
  refine Met.ofW (cc := cX11_currentOf) (maxL := 3) (ret := (some .int)) (by decide) rfl ?_
  intro p e s m args below meth c s₁ B hml hv
  obtain ⟨rfl, hsz, hP, hK, hD0, hX⟩ := hv
  have hx := B.exec
  have hb := B.bytes
  have hr := B.returns
  have hts := ws_all (atoms_spec (ws := ws_ yX11_currentOf cX11_currentOf 3 (some .int)) B.pre)
  have hown : s.vm.findClass RX11 = some m.cls := findClass_of_methodNamed B.named
  have hlocks := B.notSynchronized
  subst hsz
  have hD := hD0.self (sz := s.heap.size)
  generalize hAe : va_A ([(rf_MO mo mw ma mf m0 m1 mu mv u0 u1 iz th mb mn mpt mbg mwr mwk mlf men), (rf_RW ct 0 mw 958 f)] ++ ws) s.heap.size = A at hD hX ⊢
  have hA : ∀ q : Nat, s.heap.size ≤ q → A q := fun q h => by rw [← hAe]; exact Or.inr h
  have hS : va_S A s.heap s.heap [] := va_S.rf
  have hl := lv_entry ([.ref mo, .int p1]) (n := 3) (Nat.le_of_ble_eq_true rfl)
  rw [lg_entry_eq]
  generalize (lg_sl ([.ref mo, .int p1]) ++ List.replicate (3 - (lg_sl ([.ref mo, .int p1])).length) Slot.unset).toArray = ls at hl ⊢
  have hl : lv_has ls 3 [(0, .ref mo), (1, .int p1)] := hl
  refine lv_aload_n hx hb dX11_currentOf_0 rfl (lv_at hl 0 rfl) ?_
  refine lv_iload_n hx hb dX11_currentOf_1 rfl (lv_at hl 1 rfl) ?_
  refine lv_iconst (v := 0) hx hb dX11_currentOf_2 (by decide) ?_
  refine ty_ki (wr := []) (wc := ([(rf_MO mo mw ma mf m0 m1 mu mv u0 u1 iz th mb mn mpt mbg mwr mwk mlf men), (rf_RW ct 0 mw 958 f)] ++ ws)) (va_runV (As := [.int p1, .int 0]) (rest := []) ⟨hx, hb, hml, hown, hts⟩ (m_of_0 l D ct S ws ph xx mo mw ma mf m0 m1 mu mv u0 u1 iz mb th mn mpt mbg mwr mwk mlf men f G (-1) p1 _ hT h_mu h_mv h_u0 h_u1 hph hy1 hR hc) (cm_V 2 hts kc_X11_of ki_RX11 kl_RX11_209 kv_X11_of kx_X11_of kd_X11_of ⟨Nat.le_of_ble_eq_true rfl, Nat.le_of_ble_eq_true rfl⟩) (ty_preE (wr := []) (wc := ([(rf_MO mo mw ma mf m0 m1 mu mv u0 u1 iz th mb mn mpt mbg mwr mwk mlf men), (rf_RW ct 0 mw 958 f)] ++ ws)) (ci := 11) (q0 := 0) hP hK hD hS hA hX rfl rfl) rfl rfl hl.1 rfl (lv_room (Nat.le_of_ble_eq_true rfl)) dX11_currentOf_3 ⟨Nat.le_of_ble_eq_true rfl, Nat.le_of_ble_eq_true rfl⟩) hP hD hS hA (fun r_1 u H locs hw_2 hP hD hS => ?_)
  obtain ⟨ws_3, rfl⟩ : ∃ z, z = u := ⟨_, rfl⟩
  obtain ⟨hT, rfl⟩ := hw_2
  have hP : va_P D vwCl ([(rf_MO mo mw ma mf m0 m1 mu mv u0 u1 iz th mb mn mpt mbg mwr mwk mlf men), (rf_RW ct 0 mw 958 f)] ++ ws_3) H := hP
  have hD : va_D A ([(rf_MO mo mw ma mf m0 m1 mu mv u0 u1 iz th mb mn mpt mbg mwr mwk mlf men), (rf_RW ct 0 mw 958 f)] ++ ws_3) := hD
  refine lv_iconst (v := 1) hx hb dX11_currentOf_6 (by decide) ?_
  refine lv_icmp_eq (tgt := 12) hx hb dX11_currentOf_7 (by decide) (fun hc_4 => ?_) (fun hc_4 => ?_)
  · refine lv_aload_n hx hb dX11_currentOf_12 rfl (lv_at hl 0 rfl) ?_
    refine lv_iload_n hx hb dX11_currentOf_13 rfl (lv_at hl 1 rfl) ?_
    refine ty_ki (wr := []) (wc := ([(rf_MO mo mw ma mf m0 m1 mu mv u0 u1 iz th mb mn mpt mbg mwr mwk mlf men), (rf_RW ct 0 mw 958 f)] ++ ws_3)) (va_runV (As := [.int p1]) (rest := []) ⟨hx, hb, hml, hown, hts⟩ (m_X11_wantedOf l D ct S ws_3 ph xx mo mw ma mf m0 m1 mu mv u0 u1 iz mb th mn mpt mbg mwr mwk mlf men f G (-1) p1 _ hT h_mu h_mv h_u0 h_u1 hph hy1 hR hc (rf_onr hR hc (Or.inl hc_4))) (cm_V 1 hts kc_X11_wantedOf ki_RX11 kl_RX11_222 kv_X11_wantedOf kx_X11_wantedOf kd_X11_wantedOf ⟨Nat.le_of_ble_eq_true rfl, Nat.le_of_ble_eq_true rfl⟩) (ty_preE (wr := []) (wc := ([(rf_MO mo mw ma mf m0 m1 mu mv u0 u1 iz th mb mn mpt mbg mwr mwk mlf men), (rf_RW ct 0 mw 958 f)] ++ ws_3)) (ci := 11) (q0 := 0) hP hK hD hS hA hX rfl rfl) rfl rfl hl.1 rfl (lv_room (Nat.le_of_ble_eq_true rfl)) dX11_currentOf_14 ⟨Nat.le_of_ble_eq_true rfl, Nat.le_of_ble_eq_true rfl⟩) hP hD hS hA (fun r_5 u H locs hw_6 hP hD hS => ?_)
    obtain ⟨ws_7, rfl⟩ : ∃ z, z = u := ⟨_, rfl⟩
    obtain ⟨hT, hp_8⟩ := hw_6
    have hp_8 : -5000 ≤ r_5.toInt ∧ r_5.toInt ≤ 5000 := hp_8
    have hP : va_P D vwCl ([(rf_MO mo mw ma mf m0 m1 mu mv u0 u1 iz th mb mn mpt mbg mwr mwk mlf men), (rf_RW ct 0 mw 958 f)] ++ ws_7) H := hP
    have hD : va_D A ([(rf_MO mo mw ma mf m0 m1 mu mv u0 u1 iz th mb mn mpt mbg mwr mwk mlf men), (rf_RW ct 0 mw 958 f)] ++ ws_7) := hD
    refine lv_istore_n (lv' := [(2, .int r_5), (0, .ref mo), (1, .int p1)]) hx hb dX11_currentOf_17 rfl hl (by decide) rfl (fun ls hl => ?_)
    refine lv_aload_n hx hb dX11_currentOf_18 rfl (lv_at hl 1 rfl) ?_
    refine va_get (v := .ref mw) (D := D) (ci := 11) (C := RX11) (T := TX11) (N := 19) hx hb hts in_X11 hown hK hP 0 rfl rfl 0 (by decide) (hts _ kl_RX11_9) (fun _ h9 => h9) rfl dX11_currentOf_19 ?_
    refine lv_bipush (v := 16) hx hb dX11_currentOf_22 (by decide) ?_
    refine va_iald hx hb hK hP 1 0 rfl rfl (cm_vin (by decide)) dX11_currentOf_24 ?_
    refine cm_cst (y := (f 16)) (by first | rfl | decide +kernel) ?_
    refine lv_if_eq (tgt := 83) hx hb dX11_currentOf_25 (by decide) (fun hc_9 => ?_) (fun hc_9 => ?_)
    · refine lv_iload_n hx hb dX11_currentOf_83 rfl (lv_at hl 0 rfl) ?_
      refine lv_aload_n hx hb dX11_currentOf_84 rfl (lv_at hl 1 rfl) ?_
      refine lv_iload_n hx hb dX11_currentOf_85 rfl (lv_at hl 2 rfl) ?_
      refine lv_bipush (v := 6) hx hb dX11_currentOf_86 (by decide) ?_
      refine ty_ki (wr := []) (wc := ([(rf_MO mo mw ma mf m0 m1 mu mv u0 u1 iz th mb mn mpt mbg mwr mwk mlf men), (rf_RW ct 0 mw 958 f)] ++ ws_7)) (va_runV (As := [.int p1, .int 6]) (rest := [.int r_5]) ⟨hx, hb, hml, hown, hts⟩ (m_of_6 l D ct S ws_7 ph xx mo mw ma mf m0 m1 mu mv u0 u1 iz mb th mn mpt mbg mwr mwk mlf men f G (-1) p1 _ hT h_mu h_mv h_u0 h_u1 hph hy1 hR hc) (cm_V 2 hts kc_X11_of ki_RX11 kl_RX11_209 kv_X11_of kx_X11_of kd_X11_of ⟨Nat.le_of_ble_eq_true rfl, Nat.le_of_ble_eq_true rfl⟩) (ty_preE (wr := []) (wc := ([(rf_MO mo mw ma mf m0 m1 mu mv u0 u1 iz th mb mn mpt mbg mwr mwk mlf men), (rf_RW ct 0 mw 958 f)] ++ ws_7)) (ci := 11) (q0 := 0) hP hK hD hS hA hX rfl rfl) rfl rfl hl.1 rfl (lv_room (Nat.le_of_ble_eq_true rfl)) dX11_currentOf_88 ⟨Nat.le_of_ble_eq_true rfl, Nat.le_of_ble_eq_true rfl⟩) hP hD hS hA (fun r_10 u H locs hw_11 hP hD hS => ?_)
      obtain ⟨ws_12, rfl⟩ : ∃ z, z = u := ⟨_, rfl⟩
      obtain ⟨hT, rfl⟩ := hw_11
      have hP : va_P D vwCl ([(rf_MO mo mw ma mf m0 m1 mu mv u0 u1 iz th mb mn mpt mbg mwr mwk mlf men), (rf_RW ct 0 mw 958 f)] ++ ws_12) H := hP
      have hD : va_D A ([(rf_MO mo mw ma mf m0 m1 mu mv u0 u1 iz th mb mn mpt mbg mwr mwk mlf men), (rf_RW ct 0 mw 958 f)] ++ ws_12) := hD
      refine lv_ineg hx hb dX11_currentOf_91 ?_
      refine va_mmax hx hb (hml.trans hl.1.symm) hown (hts _ kl_RX11_225) (hts _ jm_max_s) (hts _ ki_RJ9) (hts _ jm_max_c) (Nat.le_of_ble_eq_true rfl) (Nat.le_of_ble_eq_true rfl) (Nat.le_of_ble_eq_true rfl) (Nat.le_of_ble_eq_true rfl) dX11_currentOf_92 ?_
      exact W.iret (v := (if r_5 < (- (rf_of f p1 6)) then (- (rf_of f p1 6)) else r_5)) hx hb hr (fun t ht hW => ⟨⟨(if r_5 < (- (rf_of f p1 6)) then (- (rf_of f p1 6)) else r_5), ws_12, rfl, ⟨hT, (rf_mxq hp_8.2 (rf_qp hR hc).1.1.1)⟩, by rw [ht]; exact hP, by rw [hAe]; exact hD⟩, hS.F ht⟩) hS.2.2 dX11_currentOf_95
    · refine lv_aload_n hx hb dX11_currentOf_28 rfl (lv_at hl 1 rfl) ?_
      refine lv_iload_n hx hb dX11_currentOf_29 rfl (lv_at hl 2 rfl) ?_
      refine lv_bipush (v := 9) hx hb dX11_currentOf_30 (by decide) ?_
      refine ty_ki (wr := []) (wc := ([(rf_MO mo mw ma mf m0 m1 mu mv u0 u1 iz th mb mn mpt mbg mwr mwk mlf men), (rf_RW ct 0 mw 958 f)] ++ ws_7)) (va_runV (As := [.int p1, .int 9]) (rest := []) ⟨hx, hb, hml, hown, hts⟩ (m_of_9 l D ct S ws_7 ph xx mo mw ma mf m0 m1 mu mv u0 u1 iz mb th mn mpt mbg mwr mwk mlf men f G (-1) p1 _ hT h_mu h_mv h_u0 h_u1 hph hy1 hR hc) (cm_V 2 hts kc_X11_of ki_RX11 kl_RX11_209 kv_X11_of kx_X11_of kd_X11_of ⟨Nat.le_of_ble_eq_true rfl, Nat.le_of_ble_eq_true rfl⟩) (ty_preE (wr := []) (wc := ([(rf_MO mo mw ma mf m0 m1 mu mv u0 u1 iz th mb mn mpt mbg mwr mwk mlf men), (rf_RW ct 0 mw 958 f)] ++ ws_7)) (ci := 11) (q0 := 0) hP hK hD hS hA hX rfl rfl) rfl rfl hl.1 rfl (lv_room (Nat.le_of_ble_eq_true rfl)) dX11_currentOf_32 ⟨Nat.le_of_ble_eq_true rfl, Nat.le_of_ble_eq_true rfl⟩) hP hD hS hA (fun r_13 u H locs hw_14 hP hD hS => ?_)
      obtain ⟨ws_15, rfl⟩ : ∃ z, z = u := ⟨_, rfl⟩
      obtain ⟨hT, rfl⟩ := hw_14
      have hP : va_P D vwCl ([(rf_MO mo mw ma mf m0 m1 mu mv u0 u1 iz th mb mn mpt mbg mwr mwk mlf men), (rf_RW ct 0 mw 958 f)] ++ ws_15) H := hP
      have hD : va_D A ([(rf_MO mo mw ma mf m0 m1 mu mv u0 u1 iz th mb mn mpt mbg mwr mwk mlf men), (rf_RW ct 0 mw 958 f)] ++ ws_15) := hD
      refine lv_aload_n hx hb dX11_currentOf_35 rfl (lv_at hl 1 rfl) ?_
      refine va_get (v := .ref mw) (D := D) (ci := 11) (C := RX11) (T := TX11) (N := 19) hx hb hts in_X11 hown hK hP 0 rfl rfl 0 (by decide) (hts _ kl_RX11_9) (fun _ h9 => h9) rfl dX11_currentOf_36 ?_
      refine lv_bipush (v := 6) hx hb dX11_currentOf_39 (by decide) ?_
      refine va_iald hx hb hK hP 1 0 rfl rfl (cm_vin (by decide)) dX11_currentOf_41 ?_
      refine cm_cst (y := (f 6)) (by first | rfl | decide +kernel) ?_
      refine lv_aload_n hx hb dX11_currentOf_42 rfl (lv_at hl 1 rfl) ?_
      refine va_get (v := .ref mw) (D := D) (ci := 11) (C := RX11) (T := TX11) (N := 19) hx hb hts in_X11 hown hK hP 0 rfl rfl 0 (by decide) (hts _ kl_RX11_9) (fun _ h9 => h9) rfl dX11_currentOf_43 ?_
      refine lv_bipush (v := 16) hx hb dX11_currentOf_46 (by decide) ?_
      refine va_iald hx hb hK hP 1 0 rfl rfl (cm_vin (by decide)) dX11_currentOf_48 ?_
      refine cm_cst (y := (f 16)) (by first | rfl | decide +kernel) ?_
      refine lv_isub hx hb dX11_currentOf_49 ?_
      refine lv_icmp_le (tgt := 83) hx hb dX11_currentOf_50 (by decide) (fun hc_16 => ?_) (fun hc_16 => ?_)
      · refine lv_iload_n hx hb dX11_currentOf_83 rfl (lv_at hl 0 rfl) ?_
        refine lv_aload_n hx hb dX11_currentOf_84 rfl (lv_at hl 1 rfl) ?_
        refine lv_iload_n hx hb dX11_currentOf_85 rfl (lv_at hl 2 rfl) ?_
        refine lv_bipush (v := 6) hx hb dX11_currentOf_86 (by decide) ?_
        refine ty_ki (wr := []) (wc := ([(rf_MO mo mw ma mf m0 m1 mu mv u0 u1 iz th mb mn mpt mbg mwr mwk mlf men), (rf_RW ct 0 mw 958 f)] ++ ws_15)) (va_runV (As := [.int p1, .int 6]) (rest := [.int r_5]) ⟨hx, hb, hml, hown, hts⟩ (m_of_6 l D ct S ws_15 ph xx mo mw ma mf m0 m1 mu mv u0 u1 iz mb th mn mpt mbg mwr mwk mlf men f G (-1) p1 _ hT h_mu h_mv h_u0 h_u1 hph hy1 hR hc) (cm_V 2 hts kc_X11_of ki_RX11 kl_RX11_209 kv_X11_of kx_X11_of kd_X11_of ⟨Nat.le_of_ble_eq_true rfl, Nat.le_of_ble_eq_true rfl⟩) (ty_preE (wr := []) (wc := ([(rf_MO mo mw ma mf m0 m1 mu mv u0 u1 iz th mb mn mpt mbg mwr mwk mlf men), (rf_RW ct 0 mw 958 f)] ++ ws_15)) (ci := 11) (q0 := 0) hP hK hD hS hA hX rfl rfl) rfl rfl hl.1 rfl (lv_room (Nat.le_of_ble_eq_true rfl)) dX11_currentOf_88 ⟨Nat.le_of_ble_eq_true rfl, Nat.le_of_ble_eq_true rfl⟩) hP hD hS hA (fun r_17 u H locs hw_18 hP hD hS => ?_)
        obtain ⟨ws_19, rfl⟩ : ∃ z, z = u := ⟨_, rfl⟩
        obtain ⟨hT, rfl⟩ := hw_18
        have hP : va_P D vwCl ([(rf_MO mo mw ma mf m0 m1 mu mv u0 u1 iz th mb mn mpt mbg mwr mwk mlf men), (rf_RW ct 0 mw 958 f)] ++ ws_19) H := hP
        have hD : va_D A ([(rf_MO mo mw ma mf m0 m1 mu mv u0 u1 iz th mb mn mpt mbg mwr mwk mlf men), (rf_RW ct 0 mw 958 f)] ++ ws_19) := hD
        refine lv_ineg hx hb dX11_currentOf_91 ?_
        refine va_mmax hx hb (hml.trans hl.1.symm) hown (hts _ kl_RX11_225) (hts _ jm_max_s) (hts _ ki_RJ9) (hts _ jm_max_c) (Nat.le_of_ble_eq_true rfl) (Nat.le_of_ble_eq_true rfl) (Nat.le_of_ble_eq_true rfl) (Nat.le_of_ble_eq_true rfl) dX11_currentOf_92 ?_
        exact W.iret (v := (if r_5 < (- (rf_of f p1 6)) then (- (rf_of f p1 6)) else r_5)) hx hb hr (fun t ht hW => ⟨⟨(if r_5 < (- (rf_of f p1 6)) then (- (rf_of f p1 6)) else r_5), ws_19, rfl, ⟨hT, (rf_mxq hp_8.2 (rf_qp hR hc).1.1.1)⟩, by rw [ht]; exact hP, by rw [hAe]; exact hD⟩, hS.F ht⟩) hS.2.2 dX11_currentOf_95
      · refine lv_iload_n hx hb dX11_currentOf_53 rfl (lv_at hl 0 rfl) ?_
        refine lv_iconst (v := 0) hx hb dX11_currentOf_54 (by decide) ?_
        refine lv_aload_n hx hb dX11_currentOf_55 rfl (lv_at hl 1 rfl) ?_
        refine va_get (v := .ref mw) (D := D) (ci := 11) (C := RX11) (T := TX11) (N := 19) hx hb hts in_X11 hown hK hP 0 rfl rfl 0 (by decide) (hts _ kl_RX11_9) (fun _ h9 => h9) rfl dX11_currentOf_56 ?_
        refine lv_bipush (v := 6) hx hb dX11_currentOf_59 (by decide) ?_
        refine va_iald hx hb hK hP 1 0 rfl rfl (cm_vin (by decide)) dX11_currentOf_61 ?_
        refine cm_cst (y := (f 6)) (by first | rfl | decide +kernel) ?_
        refine lv_aload_n hx hb dX11_currentOf_62 rfl (lv_at hl 1 rfl) ?_
        refine lv_iload_n hx hb dX11_currentOf_63 rfl (lv_at hl 2 rfl) ?_
        refine lv_bipush (v := 9) hx hb dX11_currentOf_64 (by decide) ?_
        refine ty_ki (wr := []) (wc := ([(rf_MO mo mw ma mf m0 m1 mu mv u0 u1 iz th mb mn mpt mbg mwr mwk mlf men), (rf_RW ct 0 mw 958 f)] ++ ws_15)) (va_runV (As := [.int p1, .int 9]) (rest := [.int (f 6), .int 0, .int r_5]) ⟨hx, hb, hml, hown, hts⟩ (m_of_9 l D ct S ws_15 ph xx mo mw ma mf m0 m1 mu mv u0 u1 iz mb th mn mpt mbg mwr mwk mlf men f G (-1) p1 _ hT h_mu h_mv h_u0 h_u1 hph hy1 hR hc) (cm_V 2 hts kc_X11_of ki_RX11 kl_RX11_209 kv_X11_of kx_X11_of kd_X11_of ⟨Nat.le_of_ble_eq_true rfl, Nat.le_of_ble_eq_true rfl⟩) (ty_preE (wr := []) (wc := ([(rf_MO mo mw ma mf m0 m1 mu mv u0 u1 iz th mb mn mpt mbg mwr mwk mlf men), (rf_RW ct 0 mw 958 f)] ++ ws_15)) (ci := 11) (q0 := 0) hP hK hD hS hA hX rfl rfl) rfl rfl hl.1 rfl (lv_room (Nat.le_of_ble_eq_true rfl)) dX11_currentOf_66 ⟨Nat.le_of_ble_eq_true rfl, Nat.le_of_ble_eq_true rfl⟩) hP hD hS hA (fun r_20 u H locs hw_21 hP hD hS => ?_)
        obtain ⟨ws_22, rfl⟩ : ∃ z, z = u := ⟨_, rfl⟩
        obtain ⟨hT, rfl⟩ := hw_21
        have hP : va_P D vwCl ([(rf_MO mo mw ma mf m0 m1 mu mv u0 u1 iz th mb mn mpt mbg mwr mwk mlf men), (rf_RW ct 0 mw 958 f)] ++ ws_22) H := hP
        have hD : va_D A ([(rf_MO mo mw ma mf m0 m1 mu mv u0 u1 iz th mb mn mpt mbg mwr mwk mlf men), (rf_RW ct 0 mw 958 f)] ++ ws_22) := hD
        refine lv_isub hx hb dX11_currentOf_69 ?_
        refine va_mmax hx hb (hml.trans hl.1.symm) hown (hts _ kl_RX11_225) (hts _ jm_max_s) (hts _ ki_RJ9) (hts _ jm_max_c) (Nat.le_of_ble_eq_true rfl) (Nat.le_of_ble_eq_true rfl) (Nat.le_of_ble_eq_true rfl) (Nat.le_of_ble_eq_true rfl) dX11_currentOf_70 ?_
        refine lv_imul hx hb dX11_currentOf_73 ?_
        refine lv_aload_n hx hb dX11_currentOf_74 rfl (lv_at hl 1 rfl) ?_
        refine va_get (v := .ref mw) (D := D) (ci := 11) (C := RX11) (T := TX11) (N := 19) hx hb hts in_X11 hown hK hP 0 rfl rfl 0 (by decide) (hts _ kl_RX11_9) (fun _ h9 => h9) rfl dX11_currentOf_75 ?_
        refine lv_bipush (v := 16) hx hb dX11_currentOf_78 (by decide) ?_
        refine va_iald hx hb hK hP 1 0 rfl rfl (cm_vin (by decide)) dX11_currentOf_80 ?_
        refine cm_cst (y := (f 16)) (by first | rfl | decide +kernel) ?_
        refine lv_idiv hx hb dX11_currentOf_81 hc_9 ?_
        refine lv_istore_n (lv' := [(2, .int ((r_5 * (if 0 < ((f 6) - (rf_of f p1 9)) then ((f 6) - (rf_of f p1 9)) else 0)) / (f 16))), (0, .ref mo), (1, .int p1)]) hx hb dX11_currentOf_82 rfl hl (by decide) rfl (fun ls hl => ?_)
        refine lv_iload_n hx hb dX11_currentOf_83 rfl (lv_at hl 0 rfl) ?_
        refine lv_aload_n hx hb dX11_currentOf_84 rfl (lv_at hl 1 rfl) ?_
        refine lv_iload_n hx hb dX11_currentOf_85 rfl (lv_at hl 2 rfl) ?_
        refine lv_bipush (v := 6) hx hb dX11_currentOf_86 (by decide) ?_
        refine ty_ki (wr := []) (wc := ([(rf_MO mo mw ma mf m0 m1 mu mv u0 u1 iz th mb mn mpt mbg mwr mwk mlf men), (rf_RW ct 0 mw 958 f)] ++ ws_22)) (va_runV (As := [.int p1, .int 6]) (rest := [.int ((r_5 * (if 0 < ((f 6) - (rf_of f p1 9)) then ((f 6) - (rf_of f p1 9)) else 0)) / (f 16))]) ⟨hx, hb, hml, hown, hts⟩ (m_of_6 l D ct S ws_22 ph xx mo mw ma mf m0 m1 mu mv u0 u1 iz mb th mn mpt mbg mwr mwk mlf men f G (-1) p1 _ hT h_mu h_mv h_u0 h_u1 hph hy1 hR hc) (cm_V 2 hts kc_X11_of ki_RX11 kl_RX11_209 kv_X11_of kx_X11_of kd_X11_of ⟨Nat.le_of_ble_eq_true rfl, Nat.le_of_ble_eq_true rfl⟩) (ty_preE (wr := []) (wc := ([(rf_MO mo mw ma mf m0 m1 mu mv u0 u1 iz th mb mn mpt mbg mwr mwk mlf men), (rf_RW ct 0 mw 958 f)] ++ ws_22)) (ci := 11) (q0 := 0) hP hK hD hS hA hX rfl rfl) rfl rfl hl.1 rfl (lv_room (Nat.le_of_ble_eq_true rfl)) dX11_currentOf_88 ⟨Nat.le_of_ble_eq_true rfl, Nat.le_of_ble_eq_true rfl⟩) hP hD hS hA (fun r_23 u H locs hw_24 hP hD hS => ?_)
        obtain ⟨ws_25, rfl⟩ : ∃ z, z = u := ⟨_, rfl⟩
        obtain ⟨hT, rfl⟩ := hw_24
        have hP : va_P D vwCl ([(rf_MO mo mw ma mf m0 m1 mu mv u0 u1 iz th mb mn mpt mbg mwr mwk mlf men), (rf_RW ct 0 mw 958 f)] ++ ws_25) H := hP
        have hD : va_D A ([(rf_MO mo mw ma mf m0 m1 mu mv u0 u1 iz th mb mn mpt mbg mwr mwk mlf men), (rf_RW ct 0 mw 958 f)] ++ ws_25) := hD
        refine lv_ineg hx hb dX11_currentOf_91 ?_
        refine va_mmax hx hb (hml.trans hl.1.symm) hown (hts _ kl_RX11_225) (hts _ jm_max_s) (hts _ ki_RJ9) (hts _ jm_max_c) (Nat.le_of_ble_eq_true rfl) (Nat.le_of_ble_eq_true rfl) (Nat.le_of_ble_eq_true rfl) (Nat.le_of_ble_eq_true rfl) dX11_currentOf_92 ?_
        exact W.iret (v := (if ((r_5 * (if 0 < ((f 6) - (rf_of f p1 9)) then ((f 6) - (rf_of f p1 9)) else 0)) / (f 16)) < (- (rf_of f p1 6)) then (- (rf_of f p1 6)) else ((r_5 * (if 0 < ((f 6) - (rf_of f p1 9)) then ((f 6) - (rf_of f p1 9)) else 0)) / (f 16)))) hx hb hr (fun t ht hW => ⟨⟨(if ((r_5 * (if 0 < ((f 6) - (rf_of f p1 9)) then ((f 6) - (rf_of f p1 9)) else 0)) / (f 16)) < (- (rf_of f p1 6)) then (- (rf_of f p1 6)) else ((r_5 * (if 0 < ((f 6) - (rf_of f p1 9)) then ((f 6) - (rf_of f p1 9)) else 0)) / (f 16))), ws_25, rfl, ⟨hT, (rf_mxq (rf_der hp_8 (rf_hs hR).1 (rf_hs hR).2.1 hc_9 hc_16).2 (rf_qp hR hc).1.1.1)⟩, by rw [ht]; exact hP, by rw [hAe]; exact hD⟩, hS.F ht⟩) hS.2.2 dX11_currentOf_95
  · refine lv_iconst (v := 0) hx hb dX11_currentOf_10 (by decide) ?_
    exact W.iret (v := 0) hx hb hr (fun t ht hW => ⟨⟨0, ws_3, rfl, ⟨hT, (by have := rf_qp hR hc; constructor <;> (rw [show (0 : Int32).toInt = 0 from by decide]; omega))⟩, by rw [ht]; exact hP, by rw [hAe]; exact hD⟩, hS.F ht⟩) hS.2.2 dX11_currentOf_11
theorem dX11_polarizes_0 : decode cX11_polarizes 0 = .ok (.iload_n 2, 1) := by decide +kernel
theorem dX11_polarizes_1 : decode cX11_polarizes 1 = .ok (.aload_n 0, 1) := by decide +kernel
theorem dX11_polarizes_2 : decode cX11_polarizes 2 = .ok (.iload_n 1, 1) := by decide +kernel
theorem dX11_polarizes_3 : decode cX11_polarizes 3 = .ok (.bipush 14, 2) := by decide +kernel
theorem dX11_polarizes_5 : decode cX11_polarizes 5 = .ok (.invokevirtual 209, 3) := by decide +kernel
theorem dX11_polarizes_8 : decode cX11_polarizes 8 = .ok (.imul, 1) := by decide +kernel
theorem dX11_polarizes_9 : decode cX11_polarizes 9 = .ok (.sipush 1000, 3) := by decide +kernel
theorem dX11_polarizes_12 : decode cX11_polarizes 12 = .ok (.idiv, 1) := by decide +kernel
theorem dX11_polarizes_13 : decode cX11_polarizes 13 = .ok (.istore_n 3, 1) := by decide +kernel
theorem dX11_polarizes_14 : decode cX11_polarizes 14 = .ok (.iload_n 3, 1) := by decide +kernel
theorem dX11_polarizes_15 : decode cX11_polarizes 15 = .ok (.aload_n 0, 1) := by decide +kernel
theorem dX11_polarizes_16 : decode cX11_polarizes 16 = .ok (.iload_n 1, 1) := by decide +kernel
theorem dX11_polarizes_17 : decode cX11_polarizes 17 = .ok (.bipush 8, 2) := by decide +kernel
theorem dX11_polarizes_19 : decode cX11_polarizes 19 = .ok (.invokevirtual 209, 3) := by decide +kernel
theorem dX11_polarizes_22 : decode cX11_polarizes 22 = .ok (.isub, 1) := by decide +kernel
theorem dX11_polarizes_23 : decode cX11_polarizes 23 = .ok (.aload_n 0, 1) := by decide +kernel
theorem dX11_polarizes_24 : decode cX11_polarizes 24 = .ok (.iload_n 1, 1) := by decide +kernel
theorem dX11_polarizes_25 : decode cX11_polarizes 25 = .ok (.bipush 15, 2) := by decide +kernel
theorem dX11_polarizes_27 : decode cX11_polarizes 27 = .ok (.invokevirtual 209, 3) := by decide +kernel
theorem dX11_polarizes_30 : decode cX11_polarizes 30 = .ok (.idiv, 1) := by decide +kernel
theorem dX11_polarizes_31 : decode cX11_polarizes 31 = .ok (.istore 4, 2) := by decide +kernel
theorem dX11_polarizes_33 : decode cX11_polarizes 33 = .ok (.iload 4, 2) := by decide +kernel
theorem dX11_polarizes_35 : decode cX11_polarizes 35 = .ok (.ifCond .ne 32, 3) := by decide +kernel
theorem dX11_polarizes_38 : decode cX11_polarizes 38 = .ok (.iload_n 3, 1) := by decide +kernel
theorem dX11_polarizes_39 : decode cX11_polarizes 39 = .ok (.aload_n 0, 1) := by decide +kernel
theorem dX11_polarizes_40 : decode cX11_polarizes 40 = .ok (.iload_n 1, 1) := by decide +kernel
theorem dX11_polarizes_41 : decode cX11_polarizes 41 = .ok (.bipush 8, 2) := by decide +kernel
theorem dX11_polarizes_43 : decode cX11_polarizes 43 = .ok (.invokevirtual 209, 3) := by decide +kernel
theorem dX11_polarizes_46 : decode cX11_polarizes 46 = .ok (.if_icmp .eq 21, 3) := by decide +kernel
theorem dX11_polarizes_49 : decode cX11_polarizes 49 = .ok (.iload_n 3, 1) := by decide +kernel
theorem dX11_polarizes_50 : decode cX11_polarizes 50 = .ok (.aload_n 0, 1) := by decide +kernel
theorem dX11_polarizes_51 : decode cX11_polarizes 51 = .ok (.iload_n 1, 1) := by decide +kernel
theorem dX11_polarizes_52 : decode cX11_polarizes 52 = .ok (.bipush 8, 2) := by decide +kernel
theorem dX11_polarizes_54 : decode cX11_polarizes 54 = .ok (.invokevirtual 209, 3) := by decide +kernel
theorem dX11_polarizes_57 : decode cX11_polarizes 57 = .ok (.if_icmp .le 7, 3) := by decide +kernel
theorem dX11_polarizes_60 : decode cX11_polarizes 60 = .ok (.iconst 1, 1) := by decide +kernel
theorem dX11_polarizes_61 : decode cX11_polarizes 61 = .ok (.goto 4, 3) := by decide +kernel
theorem dX11_polarizes_64 : decode cX11_polarizes 64 = .ok (.iconst (-1), 1) := by decide +kernel
theorem dX11_polarizes_65 : decode cX11_polarizes 65 = .ok (.istore 4, 2) := by decide +kernel
theorem dX11_polarizes_67 : decode cX11_polarizes 67 = .ok (.aload_n 0, 1) := by decide +kernel
theorem dX11_polarizes_68 : decode cX11_polarizes 68 = .ok (.iload_n 1, 1) := by decide +kernel
theorem dX11_polarizes_69 : decode cX11_polarizes 69 = .ok (.bipush 8, 2) := by decide +kernel
theorem dX11_polarizes_71 : decode cX11_polarizes 71 = .ok (.aload_n 0, 1) := by decide +kernel
theorem dX11_polarizes_72 : decode cX11_polarizes 72 = .ok (.iload_n 1, 1) := by decide +kernel
theorem dX11_polarizes_73 : decode cX11_polarizes 73 = .ok (.bipush 8, 2) := by decide +kernel
theorem dX11_polarizes_75 : decode cX11_polarizes 75 = .ok (.invokevirtual 209, 3) := by decide +kernel
theorem dX11_polarizes_78 : decode cX11_polarizes 78 = .ok (.iload 4, 2) := by decide +kernel
theorem dX11_polarizes_80 : decode cX11_polarizes 80 = .ok (.iadd, 1) := by decide +kernel
theorem dX11_polarizes_81 : decode cX11_polarizes 81 = .ok (.invokevirtual 234, 3) := by decide +kernel
theorem dX11_polarizes_84 : decode cX11_polarizes 84 = .ok (.return_, 1) := by decide +kernel
set_option maxRecDepth 100000 in
set_option maxHeartbeats 4000000 in
theorem m_X11_polarizes (l : Launch) (D : va_G) (ct : Nat → ClassId) (S : ty_S) (ws : va_W) (ph : va_W → Prop) (xx : Nat → Nat → Nat → Prop) (mo : Nat) (mw : Nat) (ma : Nat) (mf : Nat) (m0 : Nat) (m1 : Nat) (mu : Nat) (mv : Nat) (u0 : Nat) (u1 : Nat) (iz : Nat) (mb : Nat) (th : Int32) (mn : Int32) (mpt : Int32) (mbg : Int32) (mwr : Int32) (mwk : Int32) (mlf : Int32) (men : Int32) (f : Nat → Int32) (G : Nat → Int32) (cx : Int) (p1 : Int32) (p2 : Int32) (sz : Nat) (hT : ty_V ct S ph ws) (h_mu : S mu = some (.inr (1, 42))) (h_mv : S mv = some (.inr (1, 42))) (h_u0 : S u0 = some (.inr (1, 42))) (h_u1 : S u1 = some (.inr (1, 42))) (hph : ty_C ph xx) (hy1 : ty_y1 xx) (hR : rf_R G cx f) (hc : 0 ≤ p1.toInt ∧ p1.toInt < (G 9).toInt) : Met l yX11_polarizes (ws_ yX11_polarizes cX11_polarizes 5 none) ({ frames := 1, cells := 0, slots := 0, locals := 23 } : Room) (va_Pc [.ref mo, .int p1, .int p2] (cmP D ct sz ([(rf_MO mo mw ma mf m0 m1 mu mv u0 u1 iz th mb mn mpt mbg mwr mwk mlf men), (rf_RW ct 0 mw 958 f)] ++ ws))) (va_Qv (fun (u : va_W × (Nat → Int32)) => match u with | (u9, f1) => ty_V ct S ph u9 ∧ rf_d (f 8) f f1 ∧ rf_R G cx f1 ∧ rf_sm f f1 ∧ rf_of f1 p1 6 = rf_of f p1 6) (cmB D ([(rf_MO mo mw ma mf m0 m1 mu mv u0 u1 iz th mb mn mpt mbg mwr mwk mlf men), (rf_RW ct 0 mw 958 f)] ++ ws) sz (fun (u : va_W × (Nat → Int32)) => match u with | (u9, f1) => ([(rf_MO mo mw ma mf m0 m1 mu mv u0 u1 iz th mb mn mpt mbg mwr mwk mlf men), (rf_RW ct 0 mw 958 f1)] ++ u9))) (va_A ([(rf_MO mo mw ma mf m0 m1 mu mv u0 u1 iz th mb mn mpt mbg mwr mwk mlf men), (rf_RW ct 0 mw 958 f)] ++ ws) sz)) 0 0 (va_A ([(rf_MO mo mw ma mf m0 m1 mu mv u0 u1 iz th mb mn mpt mbg mwr mwk mlf men), (rf_RW ct 0 mw 958 f)] ++ ws) sz) := by
  refine Met.ofW (cc := cX11_polarizes) (maxL := 5) (ret := none) (by decide) rfl ?_
  intro p e s m args below meth c s₁ B hml hv
  obtain ⟨rfl, hsz, hP, hK, hD0, hX⟩ := hv
  have hx := B.exec
  have hb := B.bytes
  have hr := B.returns
  have hts := ws_all (atoms_spec (ws := ws_ yX11_polarizes cX11_polarizes 5 none) B.pre)
  have hown : s.vm.findClass RX11 = some m.cls := findClass_of_methodNamed B.named
  have hlocks := B.notSynchronized
  subst hsz
  have hD := hD0.self (sz := s.heap.size)
  generalize hAe : va_A ([(rf_MO mo mw ma mf m0 m1 mu mv u0 u1 iz th mb mn mpt mbg mwr mwk mlf men), (rf_RW ct 0 mw 958 f)] ++ ws) s.heap.size = A at hD hX ⊢
  have hA : ∀ q : Nat, s.heap.size ≤ q → A q := fun q h => by rw [← hAe]; exact Or.inr h
  have hS : va_S A s.heap s.heap [] := va_S.rf
  have hl := lv_entry ([.ref mo, .int p1, .int p2]) (n := 5) (Nat.le_of_ble_eq_true rfl)
  rw [lg_entry_eq]
  generalize (lg_sl ([.ref mo, .int p1, .int p2]) ++ List.replicate (5 - (lg_sl ([.ref mo, .int p1, .int p2])).length) Slot.unset).toArray = ls at hl ⊢
  have hl : lv_has ls 5 [(0, .ref mo), (1, .int p1), (2, .int p2)] := hl
  refine lv_iload_n hx hb dX11_polarizes_0 rfl (lv_at hl 2 rfl) ?_
  refine lv_aload_n hx hb dX11_polarizes_1 rfl (lv_at hl 0 rfl) ?_
  refine lv_iload_n hx hb dX11_polarizes_2 rfl (lv_at hl 1 rfl) ?_
  refine lv_bipush (v := 14) hx hb dX11_polarizes_3 (by decide) ?_
  refine ty_ki (wr := []) (wc := ([(rf_MO mo mw ma mf m0 m1 mu mv u0 u1 iz th mb mn mpt mbg mwr mwk mlf men), (rf_RW ct 0 mw 958 f)] ++ ws)) (va_runV (As := [.int p1, .int 14]) (rest := [.int p2]) ⟨hx, hb, hml, hown, hts⟩ (m_of_14 l D ct S ws ph xx mo mw ma mf m0 m1 mu mv u0 u1 iz mb th mn mpt mbg mwr mwk mlf men f G cx p1 _ hT h_mu h_mv h_u0 h_u1 hph hy1 hR hc) (cm_V 2 hts kc_X11_of ki_RX11 kl_RX11_209 kv_X11_of kx_X11_of kd_X11_of ⟨Nat.le_of_ble_eq_true rfl, Nat.le_of_ble_eq_true rfl⟩) (ty_preE (wr := []) (wc := ([(rf_MO mo mw ma mf m0 m1 mu mv u0 u1 iz th mb mn mpt mbg mwr mwk mlf men), (rf_RW ct 0 mw 958 f)] ++ ws)) (ci := 11) (q0 := 0) hP hK hD hS hA hX rfl rfl) rfl rfl hl.1 rfl (lv_room (Nat.le_of_ble_eq_true rfl)) dX11_polarizes_5 ⟨Nat.le_of_ble_eq_true rfl, Nat.le_of_ble_eq_true rfl⟩) hP hD hS hA (fun r_1 u H locs hw_2 hP hD hS => ?_)
  obtain ⟨ws_3, rfl⟩ : ∃ z, z = u := ⟨_, rfl⟩
  obtain ⟨hT, rfl⟩ := hw_2
  have hP : va_P D vwCl ([(rf_MO mo mw ma mf m0 m1 mu mv u0 u1 iz th mb mn mpt mbg mwr mwk mlf men), (rf_RW ct 0 mw 958 f)] ++ ws_3) H := hP
  have hD : va_D A ([(rf_MO mo mw ma mf m0 m1 mu mv u0 u1 iz th mb mn mpt mbg mwr mwk mlf men), (rf_RW ct 0 mw 958 f)] ++ ws_3) := hD
  refine lv_imul hx hb dX11_polarizes_8 ?_
  refine lv_topi (fun x_4 _ => ?_)
  refine lv_sipush (v := 1000) hx hb dX11_polarizes_9 (by decide) ?_
  refine lv_idiv hx hb dX11_polarizes_12 (by decide) ?_
  refine lv_topi (fun x_5 _ => ?_)
  refine lv_istore_n (lv' := [(3, .int x_5), (0, .ref mo), (1, .int p1), (2, .int p2)]) hx hb dX11_polarizes_13 rfl hl (by decide) rfl (fun ls hl => ?_)
  refine lv_iload_n hx hb dX11_polarizes_14 rfl (lv_at hl 0 rfl) ?_
  refine lv_aload_n hx hb dX11_polarizes_15 rfl (lv_at hl 1 rfl) ?_
  refine lv_iload_n hx hb dX11_polarizes_16 rfl (lv_at hl 2 rfl) ?_
  refine lv_bipush (v := 8) hx hb dX11_polarizes_17 (by decide) ?_
  refine ty_ki (wr := []) (wc := ([(rf_MO mo mw ma mf m0 m1 mu mv u0 u1 iz th mb mn mpt mbg mwr mwk mlf men), (rf_RW ct 0 mw 958 f)] ++ ws_3)) (va_runV (As := [.int p1, .int 8]) (rest := [.int x_5]) ⟨hx, hb, hml, hown, hts⟩ (m_of_8 l D ct S ws_3 ph xx mo mw ma mf m0 m1 mu mv u0 u1 iz mb th mn mpt mbg mwr mwk mlf men f G cx p1 _ hT h_mu h_mv h_u0 h_u1 hph hy1 hR hc) (cm_V 2 hts kc_X11_of ki_RX11 kl_RX11_209 kv_X11_of kx_X11_of kd_X11_of ⟨Nat.le_of_ble_eq_true rfl, Nat.le_of_ble_eq_true rfl⟩) (ty_preE (wr := []) (wc := ([(rf_MO mo mw ma mf m0 m1 mu mv u0 u1 iz th mb mn mpt mbg mwr mwk mlf men), (rf_RW ct 0 mw 958 f)] ++ ws_3)) (ci := 11) (q0 := 0) hP hK hD hS hA hX rfl rfl) rfl rfl hl.1 rfl (lv_room (Nat.le_of_ble_eq_true rfl)) dX11_polarizes_19 ⟨Nat.le_of_ble_eq_true rfl, Nat.le_of_ble_eq_true rfl⟩) hP hD hS hA (fun r_6 u H locs hw_7 hP hD hS => ?_)
  obtain ⟨ws_8, rfl⟩ : ∃ z, z = u := ⟨_, rfl⟩
  obtain ⟨hT, rfl⟩ := hw_7
  have hP : va_P D vwCl ([(rf_MO mo mw ma mf m0 m1 mu mv u0 u1 iz th mb mn mpt mbg mwr mwk mlf men), (rf_RW ct 0 mw 958 f)] ++ ws_8) H := hP
  have hD : va_D A ([(rf_MO mo mw ma mf m0 m1 mu mv u0 u1 iz th mb mn mpt mbg mwr mwk mlf men), (rf_RW ct 0 mw 958 f)] ++ ws_8) := hD
  refine lv_isub hx hb dX11_polarizes_22 ?_
  refine lv_topi (fun x_9 _ => ?_)
  refine lv_aload_n hx hb dX11_polarizes_23 rfl (lv_at hl 1 rfl) ?_
  refine lv_iload_n hx hb dX11_polarizes_24 rfl (lv_at hl 2 rfl) ?_
  refine lv_bipush (v := 15) hx hb dX11_polarizes_25 (by decide) ?_
  refine ty_ki (wr := []) (wc := ([(rf_MO mo mw ma mf m0 m1 mu mv u0 u1 iz th mb mn mpt mbg mwr mwk mlf men), (rf_RW ct 0 mw 958 f)] ++ ws_8)) (va_runV (As := [.int p1, .int 15]) (rest := [.int x_9]) ⟨hx, hb, hml, hown, hts⟩ (m_of_15 l D ct S ws_8 ph xx mo mw ma mf m0 m1 mu mv u0 u1 iz mb th mn mpt mbg mwr mwk mlf men f G cx p1 _ hT h_mu h_mv h_u0 h_u1 hph hy1 hR hc) (cm_V 2 hts kc_X11_of ki_RX11 kl_RX11_209 kv_X11_of kx_X11_of kd_X11_of ⟨Nat.le_of_ble_eq_true rfl, Nat.le_of_ble_eq_true rfl⟩) (ty_preE (wr := []) (wc := ([(rf_MO mo mw ma mf m0 m1 mu mv u0 u1 iz th mb mn mpt mbg mwr mwk mlf men), (rf_RW ct 0 mw 958 f)] ++ ws_8)) (ci := 11) (q0 := 0) hP hK hD hS hA hX rfl rfl) rfl rfl hl.1 rfl (lv_room (Nat.le_of_ble_eq_true rfl)) dX11_polarizes_27 ⟨Nat.le_of_ble_eq_true rfl, Nat.le_of_ble_eq_true rfl⟩) hP hD hS hA (fun r_10 u H locs hw_11 hP hD hS => ?_)
  obtain ⟨ws_12, rfl⟩ : ∃ z, z = u := ⟨_, rfl⟩
  obtain ⟨hT, rfl⟩ := hw_11
  have hP : va_P D vwCl ([(rf_MO mo mw ma mf m0 m1 mu mv u0 u1 iz th mb mn mpt mbg mwr mwk mlf men), (rf_RW ct 0 mw 958 f)] ++ ws_12) H := hP
  have hD : va_D A ([(rf_MO mo mw ma mf m0 m1 mu mv u0 u1 iz th mb mn mpt mbg mwr mwk mlf men), (rf_RW ct 0 mw 958 f)] ++ ws_12) := hD
  refine lv_idiv hx hb dX11_polarizes_30 (rf_nz (rf_stat hR hc).2.2.1) ?_
  refine lv_topi (fun x_13 _ => ?_)
  refine lv_istore (lv' := [(4, .int x_13), (3, .int x_5), (0, .ref mo), (1, .int p1), (2, .int p2)]) hx hb dX11_polarizes_31 hl (by decide) rfl (fun ls hl => ?_)
  refine lv_iload hx hb dX11_polarizes_33 (lv_at hl 0 rfl) ?_
  refine lv_if_ne (tgt := 67) hx hb dX11_polarizes_35 (by decide) (fun hc_14 => ?_) (fun hc_14 => ?_)
  · refine lv_aload_n hx hb dX11_polarizes_67 rfl (lv_at hl 2 rfl) ?_
    refine lv_iload_n hx hb dX11_polarizes_68 rfl (lv_at hl 3 rfl) ?_
    refine lv_bipush (v := 8) hx hb dX11_polarizes_69 (by decide) ?_
    refine lv_aload_n hx hb dX11_polarizes_71 rfl (lv_at hl 2 rfl) ?_
    refine lv_iload_n hx hb dX11_polarizes_72 rfl (lv_at hl 3 rfl) ?_
    refine lv_bipush (v := 8) hx hb dX11_polarizes_73 (by decide) ?_
    refine ty_ki (wr := []) (wc := ([(rf_MO mo mw ma mf m0 m1 mu mv u0 u1 iz th mb mn mpt mbg mwr mwk mlf men), (rf_RW ct 0 mw 958 f)] ++ ws_12)) (va_runV (As := [.int p1, .int 8]) (rest := [.int 8, .int p1, .ref mo]) ⟨hx, hb, hml, hown, hts⟩ (m_of_8 l D ct S ws_12 ph xx mo mw ma mf m0 m1 mu mv u0 u1 iz mb th mn mpt mbg mwr mwk mlf men f G cx p1 _ hT h_mu h_mv h_u0 h_u1 hph hy1 hR hc) (cm_V 2 hts kc_X11_of ki_RX11 kl_RX11_209 kv_X11_of kx_X11_of kd_X11_of ⟨Nat.le_of_ble_eq_true rfl, Nat.le_of_ble_eq_true rfl⟩) (ty_preE (wr := []) (wc := ([(rf_MO mo mw ma mf m0 m1 mu mv u0 u1 iz th mb mn mpt mbg mwr mwk mlf men), (rf_RW ct 0 mw 958 f)] ++ ws_12)) (ci := 11) (q0 := 0) hP hK hD hS hA hX rfl rfl) rfl rfl hl.1 rfl (lv_room (Nat.le_of_ble_eq_true rfl)) dX11_polarizes_75 ⟨Nat.le_of_ble_eq_true rfl, Nat.le_of_ble_eq_true rfl⟩) hP hD hS hA (fun r_15 u H locs hw_16 hP hD hS => ?_)
    obtain ⟨ws_17, rfl⟩ : ∃ z, z = u := ⟨_, rfl⟩
    obtain ⟨hT, rfl⟩ := hw_16
    have hP : va_P D vwCl ([(rf_MO mo mw ma mf m0 m1 mu mv u0 u1 iz th mb mn mpt mbg mwr mwk mlf men), (rf_RW ct 0 mw 958 f)] ++ ws_17) H := hP
    have hD : va_D A ([(rf_MO mo mw ma mf m0 m1 mu mv u0 u1 iz th mb mn mpt mbg mwr mwk mlf men), (rf_RW ct 0 mw 958 f)] ++ ws_17) := hD
    refine lv_iload hx hb dX11_polarizes_78 (lv_at hl 0 rfl) ?_
    refine lv_iadd hx hb dX11_polarizes_80 ?_
    refine lv_topi (fun x_18 _ => ?_)
    refine ty_kv (wr := []) (wc := ([(rf_MO mo mw ma mf m0 m1 mu mv u0 u1 iz th mb mn mpt mbg mwr mwk mlf men), (rf_RW ct 0 mw 958 f)] ++ ws_17)) (va_runV (As := [.int p1, .int 8, .int x_18]) (rest := []) ⟨hx, hb, hml, hown, hts⟩ (m_put_8 l D ct S ws_17 ph xx mo mw ma mf m0 m1 mu mv u0 u1 iz mb th mn mpt mbg mwr mwk mlf men f G cx p1 x_18 _ hT h_mu h_mv h_u0 h_u1 hph hy1 hR hc) (cm_V 3 hts kc_X11_put ki_RX11 kl_RX11_234 kv_X11_put kx_X11_put kd_X11_put ⟨Nat.le_of_ble_eq_true rfl, Nat.le_of_ble_eq_true rfl⟩) (ty_preE (wr := []) (wc := ([(rf_MO mo mw ma mf m0 m1 mu mv u0 u1 iz th mb mn mpt mbg mwr mwk mlf men), (rf_RW ct 0 mw 958 f)] ++ ws_17)) (ci := 11) (q0 := 0) hP hK hD hS hA hX rfl rfl) rfl rfl hl.1 rfl (lv_room (Nat.le_of_ble_eq_true rfl)) dX11_polarizes_81 ⟨Nat.le_of_ble_eq_true rfl, Nat.le_of_ble_eq_true rfl⟩) hP hD hS hA (fun u H locs hw_20 hP hD hS => ?_)
    obtain ⟨ws_21, f1_22⟩ := u
    obtain ⟨hT, hp_23⟩ := hw_20
    have hp_23 : rf_d (f 8) f f1_22 ∧ rf_R G cx f1_22 ∧ rf_sm f f1_22 ∧ f1_22 = upd f (244 + 54 * p1.toInt.toNat + 8) x_18 := hp_23
    obtain ⟨hd_24, hq_25⟩ := hp_23
    have hD_26 := rf_dt (rf_dr f) hd_24
    have hR_27 := hq_25.1
    have hM_28 := rf_smt (rf_smr f) hq_25.2.1
    have hP : va_P D vwCl ([(rf_MO mo mw ma mf m0 m1 mu mv u0 u1 iz th mb mn mpt mbg mwr mwk mlf men), (rf_RW ct 0 mw 958 f1_22)] ++ ws_21) H := hP
    have hD : va_D A ([(rf_MO mo mw ma mf m0 m1 mu mv u0 u1 iz th mb mn mpt mbg mwr mwk mlf men), (rf_RW ct 0 mw 958 f1_22)] ++ ws_21) := hD
    exact W.vret hx hb hr (fun t ht hW => ⟨⟨(ws_21, f1_22), rfl, ⟨hT, ⟨hD_26, hR_27, hM_28, (by rw [hq_25.2.2]; exact rf_ne (by decide))⟩⟩, by rw [ht]; exact hP, by rw [hAe]; exact hD⟩, hS.F ht⟩) hS.2.2 dX11_polarizes_84
  · refine lv_iload_n hx hb dX11_polarizes_38 rfl (lv_at hl 1 rfl) ?_
    refine lv_aload_n hx hb dX11_polarizes_39 rfl (lv_at hl 2 rfl) ?_
    refine lv_iload_n hx hb dX11_polarizes_40 rfl (lv_at hl 3 rfl) ?_
    refine lv_bipush (v := 8) hx hb dX11_polarizes_41 (by decide) ?_
    refine ty_ki (wr := []) (wc := ([(rf_MO mo mw ma mf m0 m1 mu mv u0 u1 iz th mb mn mpt mbg mwr mwk mlf men), (rf_RW ct 0 mw 958 f)] ++ ws_12)) (va_runV (As := [.int p1, .int 8]) (rest := [.int x_5]) ⟨hx, hb, hml, hown, hts⟩ (m_of_8 l D ct S ws_12 ph xx mo mw ma mf m0 m1 mu mv u0 u1 iz mb th mn mpt mbg mwr mwk mlf men f G cx p1 _ hT h_mu h_mv h_u0 h_u1 hph hy1 hR hc) (cm_V 2 hts kc_X11_of ki_RX11 kl_RX11_209 kv_X11_of kx_X11_of kd_X11_of ⟨Nat.le_of_ble_eq_true rfl, Nat.le_of_ble_eq_true rfl⟩) (ty_preE (wr := []) (wc := ([(rf_MO mo mw ma mf m0 m1 mu mv u0 u1 iz th mb mn mpt mbg mwr mwk mlf men), (rf_RW ct 0 mw 958 f)] ++ ws_12)) (ci := 11) (q0 := 0) hP hK hD hS hA hX rfl rfl) rfl rfl hl.1 rfl (lv_room (Nat.le_of_ble_eq_true rfl)) dX11_polarizes_43 ⟨Nat.le_of_ble_eq_true rfl, Nat.le_of_ble_eq_true rfl⟩) hP hD hS hA (fun r_29 u H locs hw_30 hP hD hS => ?_)
    obtain ⟨ws_31, rfl⟩ : ∃ z, z = u := ⟨_, rfl⟩
    obtain ⟨hT, rfl⟩ := hw_30
    have hP : va_P D vwCl ([(rf_MO mo mw ma mf m0 m1 mu mv u0 u1 iz th mb mn mpt mbg mwr mwk mlf men), (rf_RW ct 0 mw 958 f)] ++ ws_31) H := hP
    have hD : va_D A ([(rf_MO mo mw ma mf m0 m1 mu mv u0 u1 iz th mb mn mpt mbg mwr mwk mlf men), (rf_RW ct 0 mw 958 f)] ++ ws_31) := hD
    refine lv_icmp_eq (tgt := 67) hx hb dX11_polarizes_46 (by decide) (fun hc_32 => ?_) (fun hc_32 => ?_)
    · refine lv_aload_n hx hb dX11_polarizes_67 rfl (lv_at hl 2 rfl) ?_
      refine lv_iload_n hx hb dX11_polarizes_68 rfl (lv_at hl 3 rfl) ?_
      refine lv_bipush (v := 8) hx hb dX11_polarizes_69 (by decide) ?_
      refine lv_aload_n hx hb dX11_polarizes_71 rfl (lv_at hl 2 rfl) ?_
      refine lv_iload_n hx hb dX11_polarizes_72 rfl (lv_at hl 3 rfl) ?_
      refine lv_bipush (v := 8) hx hb dX11_polarizes_73 (by decide) ?_
      refine ty_ki (wr := []) (wc := ([(rf_MO mo mw ma mf m0 m1 mu mv u0 u1 iz th mb mn mpt mbg mwr mwk mlf men), (rf_RW ct 0 mw 958 f)] ++ ws_31)) (va_runV (As := [.int p1, .int 8]) (rest := [.int 8, .int p1, .ref mo]) ⟨hx, hb, hml, hown, hts⟩ (m_of_8 l D ct S ws_31 ph xx mo mw ma mf m0 m1 mu mv u0 u1 iz mb th mn mpt mbg mwr mwk mlf men f G cx p1 _ hT h_mu h_mv h_u0 h_u1 hph hy1 hR hc) (cm_V 2 hts kc_X11_of ki_RX11 kl_RX11_209 kv_X11_of kx_X11_of kd_X11_of ⟨Nat.le_of_ble_eq_true rfl, Nat.le_of_ble_eq_true rfl⟩) (ty_preE (wr := []) (wc := ([(rf_MO mo mw ma mf m0 m1 mu mv u0 u1 iz th mb mn mpt mbg mwr mwk mlf men), (rf_RW ct 0 mw 958 f)] ++ ws_31)) (ci := 11) (q0 := 0) hP hK hD hS hA hX rfl rfl) rfl rfl hl.1 rfl (lv_room (Nat.le_of_ble_eq_true rfl)) dX11_polarizes_75 ⟨Nat.le_of_ble_eq_true rfl, Nat.le_of_ble_eq_true rfl⟩) hP hD hS hA (fun r_33 u H locs hw_34 hP hD hS => ?_)
      obtain ⟨ws_35, rfl⟩ : ∃ z, z = u := ⟨_, rfl⟩
      obtain ⟨hT, rfl⟩ := hw_34
      have hP : va_P D vwCl ([(rf_MO mo mw ma mf m0 m1 mu mv u0 u1 iz th mb mn mpt mbg mwr mwk mlf men), (rf_RW ct 0 mw 958 f)] ++ ws_35) H := hP
      have hD : va_D A ([(rf_MO mo mw ma mf m0 m1 mu mv u0 u1 iz th mb mn mpt mbg mwr mwk mlf men), (rf_RW ct 0 mw 958 f)] ++ ws_35) := hD
      refine lv_iload hx hb dX11_polarizes_78 (lv_at hl 0 rfl) ?_
      refine lv_iadd hx hb dX11_polarizes_80 ?_
      refine lv_topi (fun x_36 _ => ?_)
      refine ty_kv (wr := []) (wc := ([(rf_MO mo mw ma mf m0 m1 mu mv u0 u1 iz th mb mn mpt mbg mwr mwk mlf men), (rf_RW ct 0 mw 958 f)] ++ ws_35)) (va_runV (As := [.int p1, .int 8, .int x_36]) (rest := []) ⟨hx, hb, hml, hown, hts⟩ (m_put_8 l D ct S ws_35 ph xx mo mw ma mf m0 m1 mu mv u0 u1 iz mb th mn mpt mbg mwr mwk mlf men f G cx p1 x_36 _ hT h_mu h_mv h_u0 h_u1 hph hy1 hR hc) (cm_V 3 hts kc_X11_put ki_RX11 kl_RX11_234 kv_X11_put kx_X11_put kd_X11_put ⟨Nat.le_of_ble_eq_true rfl, Nat.le_of_ble_eq_true rfl⟩) (ty_preE (wr := []) (wc := ([(rf_MO mo mw ma mf m0 m1 mu mv u0 u1 iz th mb mn mpt mbg mwr mwk mlf men), (rf_RW ct 0 mw 958 f)] ++ ws_35)) (ci := 11) (q0 := 0) hP hK hD hS hA hX rfl rfl) rfl rfl hl.1 rfl (lv_room (Nat.le_of_ble_eq_true rfl)) dX11_polarizes_81 ⟨Nat.le_of_ble_eq_true rfl, Nat.le_of_ble_eq_true rfl⟩) hP hD hS hA (fun u H locs hw_38 hP hD hS => ?_)
      obtain ⟨ws_39, f1_40⟩ := u
      obtain ⟨hT, hp_41⟩ := hw_38
      have hp_41 : rf_d (f 8) f f1_40 ∧ rf_R G cx f1_40 ∧ rf_sm f f1_40 ∧ f1_40 = upd f (244 + 54 * p1.toInt.toNat + 8) x_36 := hp_41
      obtain ⟨hd_42, hq_43⟩ := hp_41
      have hD_44 := rf_dt (rf_dr f) hd_42
      have hR_45 := hq_43.1
      have hM_46 := rf_smt (rf_smr f) hq_43.2.1
      have hP : va_P D vwCl ([(rf_MO mo mw ma mf m0 m1 mu mv u0 u1 iz th mb mn mpt mbg mwr mwk mlf men), (rf_RW ct 0 mw 958 f1_40)] ++ ws_39) H := hP
      have hD : va_D A ([(rf_MO mo mw ma mf m0 m1 mu mv u0 u1 iz th mb mn mpt mbg mwr mwk mlf men), (rf_RW ct 0 mw 958 f1_40)] ++ ws_39) := hD
      exact W.vret hx hb hr (fun t ht hW => ⟨⟨(ws_39, f1_40), rfl, ⟨hT, ⟨hD_44, hR_45, hM_46, (by rw [hq_43.2.2]; exact rf_ne (by decide))⟩⟩, by rw [ht]; exact hP, by rw [hAe]; exact hD⟩, hS.F ht⟩) hS.2.2 dX11_polarizes_84
    · refine lv_iload_n hx hb dX11_polarizes_49 rfl (lv_at hl 1 rfl) ?_
      refine lv_aload_n hx hb dX11_polarizes_50 rfl (lv_at hl 2 rfl) ?_
      refine lv_iload_n hx hb dX11_polarizes_51 rfl (lv_at hl 3 rfl) ?_
      refine lv_bipush (v := 8) hx hb dX11_polarizes_52 (by decide) ?_
      refine ty_ki (wr := []) (wc := ([(rf_MO mo mw ma mf m0 m1 mu mv u0 u1 iz th mb mn mpt mbg mwr mwk mlf men), (rf_RW ct 0 mw 958 f)] ++ ws_31)) (va_runV (As := [.int p1, .int 8]) (rest := [.int x_5]) ⟨hx, hb, hml, hown, hts⟩ (m_of_8 l D ct S ws_31 ph xx mo mw ma mf m0 m1 mu mv u0 u1 iz mb th mn mpt mbg mwr mwk mlf men f G cx p1 _ hT h_mu h_mv h_u0 h_u1 hph hy1 hR hc) (cm_V 2 hts kc_X11_of ki_RX11 kl_RX11_209 kv_X11_of kx_X11_of kd_X11_of ⟨Nat.le_of_ble_eq_true rfl, Nat.le_of_ble_eq_true rfl⟩) (ty_preE (wr := []) (wc := ([(rf_MO mo mw ma mf m0 m1 mu mv u0 u1 iz th mb mn mpt mbg mwr mwk mlf men), (rf_RW ct 0 mw 958 f)] ++ ws_31)) (ci := 11) (q0 := 0) hP hK hD hS hA hX rfl rfl) rfl rfl hl.1 rfl (lv_room (Nat.le_of_ble_eq_true rfl)) dX11_polarizes_54 ⟨Nat.le_of_ble_eq_true rfl, Nat.le_of_ble_eq_true rfl⟩) hP hD hS hA (fun r_47 u H locs hw_48 hP hD hS => ?_)
      obtain ⟨ws_49, rfl⟩ : ∃ z, z = u := ⟨_, rfl⟩
      obtain ⟨hT, rfl⟩ := hw_48
      have hP : va_P D vwCl ([(rf_MO mo mw ma mf m0 m1 mu mv u0 u1 iz th mb mn mpt mbg mwr mwk mlf men), (rf_RW ct 0 mw 958 f)] ++ ws_49) H := hP
      have hD : va_D A ([(rf_MO mo mw ma mf m0 m1 mu mv u0 u1 iz th mb mn mpt mbg mwr mwk mlf men), (rf_RW ct 0 mw 958 f)] ++ ws_49) := hD
      refine lv_icmp_le (tgt := 64) hx hb dX11_polarizes_57 (by decide) (fun hc_50 => ?_) (fun hc_50 => ?_)
      · refine lv_iconst (v := (-1)) hx hb dX11_polarizes_64 (by decide) ?_
        refine lv_istore (lv' := [(4, .int (-1)), (3, .int x_5), (0, .ref mo), (1, .int p1), (2, .int p2)]) hx hb dX11_polarizes_65 hl (by decide) rfl (fun ls hl => ?_)
        refine lv_aload_n hx hb dX11_polarizes_67 rfl (lv_at hl 2 rfl) ?_
        refine lv_iload_n hx hb dX11_polarizes_68 rfl (lv_at hl 3 rfl) ?_
        refine lv_bipush (v := 8) hx hb dX11_polarizes_69 (by decide) ?_
        refine lv_aload_n hx hb dX11_polarizes_71 rfl (lv_at hl 2 rfl) ?_
        refine lv_iload_n hx hb dX11_polarizes_72 rfl (lv_at hl 3 rfl) ?_
        refine lv_bipush (v := 8) hx hb dX11_polarizes_73 (by decide) ?_
        refine ty_ki (wr := []) (wc := ([(rf_MO mo mw ma mf m0 m1 mu mv u0 u1 iz th mb mn mpt mbg mwr mwk mlf men), (rf_RW ct 0 mw 958 f)] ++ ws_49)) (va_runV (As := [.int p1, .int 8]) (rest := [.int 8, .int p1, .ref mo]) ⟨hx, hb, hml, hown, hts⟩ (m_of_8 l D ct S ws_49 ph xx mo mw ma mf m0 m1 mu mv u0 u1 iz mb th mn mpt mbg mwr mwk mlf men f G cx p1 _ hT h_mu h_mv h_u0 h_u1 hph hy1 hR hc) (cm_V 2 hts kc_X11_of ki_RX11 kl_RX11_209 kv_X11_of kx_X11_of kd_X11_of ⟨Nat.le_of_ble_eq_true rfl, Nat.le_of_ble_eq_true rfl⟩) (ty_preE (wr := []) (wc := ([(rf_MO mo mw ma mf m0 m1 mu mv u0 u1 iz th mb mn mpt mbg mwr mwk mlf men), (rf_RW ct 0 mw 958 f)] ++ ws_49)) (ci := 11) (q0 := 0) hP hK hD hS hA hX rfl rfl) rfl rfl hl.1 rfl (lv_room (Nat.le_of_ble_eq_true rfl)) dX11_polarizes_75 ⟨Nat.le_of_ble_eq_true rfl, Nat.le_of_ble_eq_true rfl⟩) hP hD hS hA (fun r_51 u H locs hw_52 hP hD hS => ?_)
        obtain ⟨ws_53, rfl⟩ : ∃ z, z = u := ⟨_, rfl⟩
        obtain ⟨hT, rfl⟩ := hw_52
        have hP : va_P D vwCl ([(rf_MO mo mw ma mf m0 m1 mu mv u0 u1 iz th mb mn mpt mbg mwr mwk mlf men), (rf_RW ct 0 mw 958 f)] ++ ws_53) H := hP
        have hD : va_D A ([(rf_MO mo mw ma mf m0 m1 mu mv u0 u1 iz th mb mn mpt mbg mwr mwk mlf men), (rf_RW ct 0 mw 958 f)] ++ ws_53) := hD
        refine lv_iload hx hb dX11_polarizes_78 (lv_at hl 0 rfl) ?_
        refine lv_iadd hx hb dX11_polarizes_80 ?_
        refine lv_topi (fun x_54 _ => ?_)
        refine ty_kv (wr := []) (wc := ([(rf_MO mo mw ma mf m0 m1 mu mv u0 u1 iz th mb mn mpt mbg mwr mwk mlf men), (rf_RW ct 0 mw 958 f)] ++ ws_53)) (va_runV (As := [.int p1, .int 8, .int x_54]) (rest := []) ⟨hx, hb, hml, hown, hts⟩ (m_put_8 l D ct S ws_53 ph xx mo mw ma mf m0 m1 mu mv u0 u1 iz mb th mn mpt mbg mwr mwk mlf men f G cx p1 x_54 _ hT h_mu h_mv h_u0 h_u1 hph hy1 hR hc) (cm_V 3 hts kc_X11_put ki_RX11 kl_RX11_234 kv_X11_put kx_X11_put kd_X11_put ⟨Nat.le_of_ble_eq_true rfl, Nat.le_of_ble_eq_true rfl⟩) (ty_preE (wr := []) (wc := ([(rf_MO mo mw ma mf m0 m1 mu mv u0 u1 iz th mb mn mpt mbg mwr mwk mlf men), (rf_RW ct 0 mw 958 f)] ++ ws_53)) (ci := 11) (q0 := 0) hP hK hD hS hA hX rfl rfl) rfl rfl hl.1 rfl (lv_room (Nat.le_of_ble_eq_true rfl)) dX11_polarizes_81 ⟨Nat.le_of_ble_eq_true rfl, Nat.le_of_ble_eq_true rfl⟩) hP hD hS hA (fun u H locs hw_56 hP hD hS => ?_)
        obtain ⟨ws_57, f1_58⟩ := u
        obtain ⟨hT, hp_59⟩ := hw_56
        have hp_59 : rf_d (f 8) f f1_58 ∧ rf_R G cx f1_58 ∧ rf_sm f f1_58 ∧ f1_58 = upd f (244 + 54 * p1.toInt.toNat + 8) x_54 := hp_59
        obtain ⟨hd_60, hq_61⟩ := hp_59
        have hD_62 := rf_dt (rf_dr f) hd_60
        have hR_63 := hq_61.1
        have hM_64 := rf_smt (rf_smr f) hq_61.2.1
        have hP : va_P D vwCl ([(rf_MO mo mw ma mf m0 m1 mu mv u0 u1 iz th mb mn mpt mbg mwr mwk mlf men), (rf_RW ct 0 mw 958 f1_58)] ++ ws_57) H := hP
        have hD : va_D A ([(rf_MO mo mw ma mf m0 m1 mu mv u0 u1 iz th mb mn mpt mbg mwr mwk mlf men), (rf_RW ct 0 mw 958 f1_58)] ++ ws_57) := hD
        exact W.vret hx hb hr (fun t ht hW => ⟨⟨(ws_57, f1_58), rfl, ⟨hT, ⟨hD_62, hR_63, hM_64, (by rw [hq_61.2.2]; exact rf_ne (by decide))⟩⟩, by rw [ht]; exact hP, by rw [hAe]; exact hD⟩, hS.F ht⟩) hS.2.2 dX11_polarizes_84
      · refine lv_iconst (v := 1) hx hb dX11_polarizes_60 (by decide) ?_
        refine lv_goto (tgt := 65) hx hb dX11_polarizes_61 (by decide) ?_
        refine lv_istore (lv' := [(4, .int 1), (3, .int x_5), (0, .ref mo), (1, .int p1), (2, .int p2)]) hx hb dX11_polarizes_65 hl (by decide) rfl (fun ls hl => ?_)
        refine lv_aload_n hx hb dX11_polarizes_67 rfl (lv_at hl 2 rfl) ?_
        refine lv_iload_n hx hb dX11_polarizes_68 rfl (lv_at hl 3 rfl) ?_
        refine lv_bipush (v := 8) hx hb dX11_polarizes_69 (by decide) ?_
        refine lv_aload_n hx hb dX11_polarizes_71 rfl (lv_at hl 2 rfl) ?_
        refine lv_iload_n hx hb dX11_polarizes_72 rfl (lv_at hl 3 rfl) ?_
        refine lv_bipush (v := 8) hx hb dX11_polarizes_73 (by decide) ?_
        refine ty_ki (wr := []) (wc := ([(rf_MO mo mw ma mf m0 m1 mu mv u0 u1 iz th mb mn mpt mbg mwr mwk mlf men), (rf_RW ct 0 mw 958 f)] ++ ws_49)) (va_runV (As := [.int p1, .int 8]) (rest := [.int 8, .int p1, .ref mo]) ⟨hx, hb, hml, hown, hts⟩ (m_of_8 l D ct S ws_49 ph xx mo mw ma mf m0 m1 mu mv u0 u1 iz mb th mn mpt mbg mwr mwk mlf men f G cx p1 _ hT h_mu h_mv h_u0 h_u1 hph hy1 hR hc) (cm_V 2 hts kc_X11_of ki_RX11 kl_RX11_209 kv_X11_of kx_X11_of kd_X11_of ⟨Nat.le_of_ble_eq_true rfl, Nat.le_of_ble_eq_true rfl⟩) (ty_preE (wr := []) (wc := ([(rf_MO mo mw ma mf m0 m1 mu mv u0 u1 iz th mb mn mpt mbg mwr mwk mlf men), (rf_RW ct 0 mw 958 f)] ++ ws_49)) (ci := 11) (q0 := 0) hP hK hD hS hA hX rfl rfl) rfl rfl hl.1 rfl (lv_room (Nat.le_of_ble_eq_true rfl)) dX11_polarizes_75 ⟨Nat.le_of_ble_eq_true rfl, Nat.le_of_ble_eq_true rfl⟩) hP hD hS hA (fun r_65 u H locs hw_66 hP hD hS => ?_)
        obtain ⟨ws_67, rfl⟩ : ∃ z, z = u := ⟨_, rfl⟩
        obtain ⟨hT, rfl⟩ := hw_66
        have hP : va_P D vwCl ([(rf_MO mo mw ma mf m0 m1 mu mv u0 u1 iz th mb mn mpt mbg mwr mwk mlf men), (rf_RW ct 0 mw 958 f)] ++ ws_67) H := hP
        have hD : va_D A ([(rf_MO mo mw ma mf m0 m1 mu mv u0 u1 iz th mb mn mpt mbg mwr mwk mlf men), (rf_RW ct 0 mw 958 f)] ++ ws_67) := hD
        refine lv_iload hx hb dX11_polarizes_78 (lv_at hl 0 rfl) ?_
        refine lv_iadd hx hb dX11_polarizes_80 ?_
        refine lv_topi (fun x_68 _ => ?_)
        refine ty_kv (wr := []) (wc := ([(rf_MO mo mw ma mf m0 m1 mu mv u0 u1 iz th mb mn mpt mbg mwr mwk mlf men), (rf_RW ct 0 mw 958 f)] ++ ws_67)) (va_runV (As := [.int p1, .int 8, .int x_68]) (rest := []) ⟨hx, hb, hml, hown, hts⟩ (m_put_8 l D ct S ws_67 ph xx mo mw ma mf m0 m1 mu mv u0 u1 iz mb th mn mpt mbg mwr mwk mlf men f G cx p1 x_68 _ hT h_mu h_mv h_u0 h_u1 hph hy1 hR hc) (cm_V 3 hts kc_X11_put ki_RX11 kl_RX11_234 kv_X11_put kx_X11_put kd_X11_put ⟨Nat.le_of_ble_eq_true rfl, Nat.le_of_ble_eq_true rfl⟩) (ty_preE (wr := []) (wc := ([(rf_MO mo mw ma mf m0 m1 mu mv u0 u1 iz th mb mn mpt mbg mwr mwk mlf men), (rf_RW ct 0 mw 958 f)] ++ ws_67)) (ci := 11) (q0 := 0) hP hK hD hS hA hX rfl rfl) rfl rfl hl.1 rfl (lv_room (Nat.le_of_ble_eq_true rfl)) dX11_polarizes_81 ⟨Nat.le_of_ble_eq_true rfl, Nat.le_of_ble_eq_true rfl⟩) hP hD hS hA (fun u H locs hw_70 hP hD hS => ?_)
        obtain ⟨ws_71, f1_72⟩ := u
        obtain ⟨hT, hp_73⟩ := hw_70
        have hp_73 : rf_d (f 8) f f1_72 ∧ rf_R G cx f1_72 ∧ rf_sm f f1_72 ∧ f1_72 = upd f (244 + 54 * p1.toInt.toNat + 8) x_68 := hp_73
        obtain ⟨hd_74, hq_75⟩ := hp_73
        have hD_76 := rf_dt (rf_dr f) hd_74
        have hR_77 := hq_75.1
        have hM_78 := rf_smt (rf_smr f) hq_75.2.1
        have hP : va_P D vwCl ([(rf_MO mo mw ma mf m0 m1 mu mv u0 u1 iz th mb mn mpt mbg mwr mwk mlf men), (rf_RW ct 0 mw 958 f1_72)] ++ ws_71) H := hP
        have hD : va_D A ([(rf_MO mo mw ma mf m0 m1 mu mv u0 u1 iz th mb mn mpt mbg mwr mwk mlf men), (rf_RW ct 0 mw 958 f1_72)] ++ ws_71) := hD
        exact W.vret hx hb hr (fun t ht hW => ⟨⟨(ws_71, f1_72), rfl, ⟨hT, ⟨hD_76, hR_77, hM_78, (by rw [hq_75.2.2]; exact rf_ne (by decide))⟩⟩, by rw [ht]; exact hP, by rw [hAe]; exact hD⟩, hS.F ht⟩) hS.2.2 dX11_polarizes_84
theorem rf_mv2b {G : Nat → Int32} {c a : Int32} (ha : 0 ≤ a.toInt ∧ a.toInt ≤ 5000999) : rf_k G c.toInt.toNat 16 (a - ((a / 1000) * 1000)) := by
  intro _
  show 0 ≤ Int32.toInt _ ∧ Int32.toInt _ ≤ 999
  have t : (1000 : Int32).toInt = 1000 := by decide
  have e1 : (a / 1000).toInt = a.toInt / 1000 := by rw [Jvm.Kit.i32_div (by omega), t, Int.tdiv_eq_ediv_of_nonneg ha.1]
  have e2 : ((a / 1000) * 1000).toInt = (a.toInt / 1000) * 1000 := by rw [Jvm.Kit.i32_mul (by rw [e1, t]; omega) (by rw [e1, t]; omega), e1, t]
  rw [Jvm.Kit.i32_sub (by rw [e2]; omega) (by rw [e2]; omega), e2]
  omega
theorem dX11_moves_0 : decode cX11_moves 0 = .ok (.iload_n 2, 1) := by decide +kernel
theorem dX11_moves_1 : decode cX11_moves 1 = .ok (.ifCond .le 83, 3) := by decide +kernel
theorem dX11_moves_4 : decode cX11_moves 4 = .ok (.iload_n 2, 1) := by decide +kernel
theorem dX11_moves_5 : decode cX11_moves 5 = .ok (.aload_n 0, 1) := by decide +kernel
theorem dX11_moves_6 : decode cX11_moves 6 = .ok (.getfield 9, 3) := by decide +kernel
theorem dX11_moves_9 : decode cX11_moves 9 = .ok (.iconst 0, 1) := by decide +kernel
theorem dX11_moves_10 : decode cX11_moves 10 = .ok (.iaload, 1) := by decide +kernel
theorem dX11_moves_11 : decode cX11_moves 11 = .ok (.imul, 1) := by decide +kernel
theorem dX11_moves_12 : decode cX11_moves 12 = .ok (.aload_n 0, 1) := by decide +kernel
theorem dX11_moves_13 : decode cX11_moves 13 = .ok (.iload_n 1, 1) := by decide +kernel
theorem dX11_moves_14 : decode cX11_moves 14 = .ok (.bipush 16, 2) := by decide +kernel
theorem dX11_moves_16 : decode cX11_moves 16 = .ok (.invokevirtual 209, 3) := by decide +kernel
theorem dX11_moves_19 : decode cX11_moves 19 = .ok (.iadd, 1) := by decide +kernel
theorem dX11_moves_20 : decode cX11_moves 20 = .ok (.istore_n 3, 1) := by decide +kernel
theorem dX11_moves_21 : decode cX11_moves 21 = .ok (.aload_n 0, 1) := by decide +kernel
theorem dX11_moves_22 : decode cX11_moves 22 = .ok (.iload_n 1, 1) := by decide +kernel
theorem dX11_moves_23 : decode cX11_moves 23 = .ok (.bipush 6, 2) := by decide +kernel
theorem dX11_moves_25 : decode cX11_moves 25 = .ok (.iconst 2, 1) := by decide +kernel
theorem dX11_moves_26 : decode cX11_moves 26 = .ok (.aload_n 0, 1) := by decide +kernel
theorem dX11_moves_27 : decode cX11_moves 27 = .ok (.iload_n 1, 1) := by decide +kernel
theorem dX11_moves_28 : decode cX11_moves 28 = .ok (.bipush 12, 2) := by decide +kernel
theorem dX11_moves_30 : decode cX11_moves 30 = .ok (.invokevirtual 209, 3) := by decide +kernel
theorem dX11_moves_33 : decode cX11_moves 33 = .ok (.imul, 1) := by decide +kernel
theorem dX11_moves_34 : decode cX11_moves 34 = .ok (.aload_n 0, 1) := by decide +kernel
theorem dX11_moves_35 : decode cX11_moves 35 = .ok (.iload_n 1, 1) := by decide +kernel
theorem dX11_moves_36 : decode cX11_moves 36 = .ok (.bipush 6, 2) := by decide +kernel
theorem dX11_moves_38 : decode cX11_moves 38 = .ok (.invokevirtual 209, 3) := by decide +kernel
theorem dX11_moves_41 : decode cX11_moves 41 = .ok (.iload_n 3, 1) := by decide +kernel
theorem dX11_moves_42 : decode cX11_moves 42 = .ok (.sipush 1000, 3) := by decide +kernel
theorem dX11_moves_45 : decode cX11_moves 45 = .ok (.idiv, 1) := by decide +kernel
theorem dX11_moves_46 : decode cX11_moves 46 = .ok (.iadd, 1) := by decide +kernel
theorem dX11_moves_47 : decode cX11_moves 47 = .ok (.invokestatic 184, 3) := by decide +kernel
theorem dX11_moves_50 : decode cX11_moves 50 = .ok (.invokevirtual 234, 3) := by decide +kernel
theorem dX11_moves_53 : decode cX11_moves 53 = .ok (.aload_n 0, 1) := by decide +kernel
theorem dX11_moves_54 : decode cX11_moves 54 = .ok (.iload_n 1, 1) := by decide +kernel
theorem dX11_moves_55 : decode cX11_moves 55 = .ok (.bipush 16, 2) := by decide +kernel
theorem dX11_moves_57 : decode cX11_moves 57 = .ok (.iload_n 3, 1) := by decide +kernel
theorem dX11_moves_58 : decode cX11_moves 58 = .ok (.sipush 1000, 3) := by decide +kernel
theorem dX11_moves_61 : decode cX11_moves 61 = .ok (.irem, 1) := by decide +kernel
theorem dX11_moves_62 : decode cX11_moves 62 = .ok (.invokevirtual 234, 3) := by decide +kernel
theorem dX11_moves_65 : decode cX11_moves 65 = .ok (.aload_n 0, 1) := by decide +kernel
theorem dX11_moves_66 : decode cX11_moves 66 = .ok (.iload_n 1, 1) := by decide +kernel
theorem dX11_moves_67 : decode cX11_moves 67 = .ok (.iconst 0, 1) := by decide +kernel
theorem dX11_moves_68 : decode cX11_moves 68 = .ok (.iload_n 2, 1) := by decide +kernel
theorem dX11_moves_69 : decode cX11_moves 69 = .ok (.i2l, 1) := by decide +kernel
theorem dX11_moves_70 : decode cX11_moves 70 = .ok (.invokevirtual 238, 3) := by decide +kernel
theorem dX11_moves_73 : decode cX11_moves 73 = .ok (.aload_n 0, 1) := by decide +kernel
theorem dX11_moves_74 : decode cX11_moves 74 = .ok (.iload_n 1, 1) := by decide +kernel
theorem dX11_moves_75 : decode cX11_moves 75 = .ok (.iconst 4, 1) := by decide +kernel
theorem dX11_moves_76 : decode cX11_moves 76 = .ok (.iload_n 2, 1) := by decide +kernel
theorem dX11_moves_77 : decode cX11_moves 77 = .ok (.i2l, 1) := by decide +kernel
theorem dX11_moves_78 : decode cX11_moves 78 = .ok (.invokevirtual 238, 3) := by decide +kernel
theorem dX11_moves_81 : decode cX11_moves 81 = .ok (.goto 37, 3) := by decide +kernel
theorem dX11_moves_84 : decode cX11_moves 84 = .ok (.aload_n 0, 1) := by decide +kernel
theorem dX11_moves_85 : decode cX11_moves 85 = .ok (.iload_n 1, 1) := by decide +kernel
theorem dX11_moves_86 : decode cX11_moves 86 = .ok (.bipush 6, 2) := by decide +kernel
theorem dX11_moves_88 : decode cX11_moves 88 = .ok (.aload_n 0, 1) := by decide +kernel
theorem dX11_moves_89 : decode cX11_moves 89 = .ok (.iload_n 1, 1) := by decide +kernel
theorem dX11_moves_90 : decode cX11_moves 90 = .ok (.bipush 6, 2) := by decide +kernel
theorem dX11_moves_92 : decode cX11_moves 92 = .ok (.invokevirtual 209, 3) := by decide +kernel
theorem dX11_moves_95 : decode cX11_moves 95 = .ok (.iload_n 2, 1) := by decide +kernel
theorem dX11_moves_96 : decode cX11_moves 96 = .ok (.iadd, 1) := by decide +kernel
theorem dX11_moves_97 : decode cX11_moves 97 = .ok (.invokevirtual 234, 3) := by decide +kernel
theorem dX11_moves_100 : decode cX11_moves 100 = .ok (.aload_n 0, 1) := by decide +kernel
theorem dX11_moves_101 : decode cX11_moves 101 = .ok (.iload_n 1, 1) := by decide +kernel
theorem dX11_moves_102 : decode cX11_moves 102 = .ok (.iconst 1, 1) := by decide +kernel
theorem dX11_moves_103 : decode cX11_moves 103 = .ok (.iload_n 2, 1) := by decide +kernel
theorem dX11_moves_104 : decode cX11_moves 104 = .ok (.ineg, 1) := by decide +kernel
theorem dX11_moves_105 : decode cX11_moves 105 = .ok (.i2l, 1) := by decide +kernel
theorem dX11_moves_106 : decode cX11_moves 106 = .ok (.invokevirtual 238, 3) := by decide +kernel
theorem dX11_moves_109 : decode cX11_moves 109 = .ok (.aload_n 0, 1) := by decide +kernel
theorem dX11_moves_110 : decode cX11_moves 110 = .ok (.iload_n 1, 1) := by decide +kernel
theorem dX11_moves_111 : decode cX11_moves 111 = .ok (.iconst 5, 1) := by decide +kernel
theorem dX11_moves_112 : decode cX11_moves 112 = .ok (.iload_n 2, 1) := by decide +kernel
theorem dX11_moves_113 : decode cX11_moves 113 = .ok (.ineg, 1) := by decide +kernel
theorem dX11_moves_114 : decode cX11_moves 114 = .ok (.i2l, 1) := by decide +kernel
theorem dX11_moves_115 : decode cX11_moves 115 = .ok (.invokevirtual 238, 3) := by decide +kernel
theorem dX11_moves_118 : decode cX11_moves 118 = .ok (.return_, 1) := by decide +kernel
set_option maxRecDepth 100000 in
set_option maxHeartbeats 4000000 in
theorem m_X11_moves (l : Launch) (D : va_G) (ct : Nat → ClassId) (S : ty_S) (ws : va_W) (ph : va_W → Prop) (xx : Nat → Nat → Nat → Prop) (mo : Nat) (mw : Nat) (ma : Nat) (mf : Nat) (m0 : Nat) (m1 : Nat) (mu : Nat) (mv : Nat) (u0 : Nat) (u1 : Nat) (iz : Nat) (mb : Nat) (th : Int32) (mn : Int32) (mpt : Int32) (mbg : Int32) (mwr : Int32) (mwk : Int32) (mlf : Int32) (men : Int32) (f : Nat → Int32) (G : Nat → Int32) (cx : Int) (p1 : Int32) (p2 : Int32) (sz : Nat) (hT : ty_V ct S ph ws) (h_mu : S mu = some (.inr (1, 42))) (h_mv : S mv = some (.inr (1, 42))) (h_u0 : S u0 = some (.inr (1, 42))) (h_u1 : S u1 = some (.inr (1, 42))) (hph : ty_C ph xx) (hy1 : ty_y1 xx) (hy11 : ty_y0 xx 11) (hR : rf_R G cx f) (hc : 0 ≤ p1.toInt ∧ p1.toInt < (G 9).toInt) (hi : -((rf_of f p1 6).toInt) ≤ p2.toInt ∧ p2.toInt ≤ 5000) : Met l yX11_moves (ws_ yX11_moves cX11_moves 4 none) ({ frames := 1, cells := 0, slots := 0, locals := 24 } : Room) (va_Pc [.ref mo, .int p1, .int p2] (cmP D ct sz ([(rf_MO mo mw ma mf m0 m1 mu mv u0 u1 iz th mb mn mpt mbg mwr mwk mlf men), (rf_RW ct 0 mw 958 f)] ++ ws))) (va_Qv (fun (u : va_W × (Nat → Int32)) => match u with | (u9, f1) => ty_V ct S ph u9 ∧ rf_d (f 8) f f1 ∧ rf_R G cx f1 ∧ rf_sm f f1) (cmB D ([(rf_MO mo mw ma mf m0 m1 mu mv u0 u1 iz th mb mn mpt mbg mwr mwk mlf men), (rf_RW ct 0 mw 958 f)] ++ ws) sz (fun (u : va_W × (Nat → Int32)) => match u with | (u9, f1) => ([(rf_MO mo mw ma mf m0 m1 mu mv u0 u1 iz th mb mn mpt mbg mwr mwk mlf men), (rf_RW ct 0 mw 958 f1)] ++ u9))) (va_A ([(rf_MO mo mw ma mf m0 m1 mu mv u0 u1 iz th mb mn mpt mbg mwr mwk mlf men), (rf_RW ct 0 mw 958 f)] ++ ws) sz)) 0 0 (va_A ([(rf_MO mo mw ma mf m0 m1 mu mv u0 u1 iz th mb mn mpt mbg mwr mwk mlf men), (rf_RW ct 0 mw 958 f)] ++ ws) sz) := by
  refine Met.ofW (cc := cX11_moves) (maxL := 4) (ret := none) (by decide) rfl ?_
  intro p e s m args below meth c s₁ B hml hv
  obtain ⟨rfl, hsz, hP, hK, hD0, hX⟩ := hv
  have hx := B.exec
  have hb := B.bytes
  have hr := B.returns
  have hts := ws_all (atoms_spec (ws := ws_ yX11_moves cX11_moves 4 none) B.pre)
  have hown : s.vm.findClass RX11 = some m.cls := findClass_of_methodNamed B.named
  have hlocks := B.notSynchronized
  subst hsz
  have hD := hD0.self (sz := s.heap.size)
  generalize hAe : va_A ([(rf_MO mo mw ma mf m0 m1 mu mv u0 u1 iz th mb mn mpt mbg mwr mwk mlf men), (rf_RW ct 0 mw 958 f)] ++ ws) s.heap.size = A at hD hX ⊢
  have hA : ∀ q : Nat, s.heap.size ≤ q → A q := fun q h => by rw [← hAe]; exact Or.inr h
  have hS : va_S A s.heap s.heap [] := va_S.rf
  have hl := lv_entry ([.ref mo, .int p1, .int p2]) (n := 4) (Nat.le_of_ble_eq_true rfl)
  rw [lg_entry_eq]
  generalize (lg_sl ([.ref mo, .int p1, .int p2]) ++ List.replicate (4 - (lg_sl ([.ref mo, .int p1, .int p2])).length) Slot.unset).toArray = ls at hl ⊢
  have hl : lv_has ls 4 [(0, .ref mo), (1, .int p1), (2, .int p2)] := hl
  refine lv_iload_n hx hb dX11_moves_0 rfl (lv_at hl 2 rfl) ?_
  refine lv_if_le (tgt := 84) hx hb dX11_moves_1 (by decide) (fun hc_1 => ?_) (fun hc_1 => ?_)
  · refine lv_aload_n hx hb dX11_moves_84 rfl (lv_at hl 0 rfl) ?_
    refine lv_iload_n hx hb dX11_moves_85 rfl (lv_at hl 1 rfl) ?_
    refine lv_bipush (v := 6) hx hb dX11_moves_86 (by decide) ?_
    refine lv_aload_n hx hb dX11_moves_88 rfl (lv_at hl 0 rfl) ?_
    refine lv_iload_n hx hb dX11_moves_89 rfl (lv_at hl 1 rfl) ?_
    refine lv_bipush (v := 6) hx hb dX11_moves_90 (by decide) ?_
    refine ty_ki (wr := []) (wc := ([(rf_MO mo mw ma mf m0 m1 mu mv u0 u1 iz th mb mn mpt mbg mwr mwk mlf men), (rf_RW ct 0 mw 958 f)] ++ ws)) (va_runV (As := [.int p1, .int 6]) (rest := [.int 6, .int p1, .ref mo]) ⟨hx, hb, hml, hown, hts⟩ (m_of_6 l D ct S ws ph xx mo mw ma mf m0 m1 mu mv u0 u1 iz mb th mn mpt mbg mwr mwk mlf men f G cx p1 _ hT h_mu h_mv h_u0 h_u1 hph hy1 hR hc) (cm_V 2 hts kc_X11_of ki_RX11 kl_RX11_209 kv_X11_of kx_X11_of kd_X11_of ⟨Nat.le_of_ble_eq_true rfl, Nat.le_of_ble_eq_true rfl⟩) (ty_preE (wr := []) (wc := ([(rf_MO mo mw ma mf m0 m1 mu mv u0 u1 iz th mb mn mpt mbg mwr mwk mlf men), (rf_RW ct 0 mw 958 f)] ++ ws)) (ci := 11) (q0 := 0) hP hK hD hS hA hX rfl rfl) rfl rfl hl.1 rfl (lv_room (Nat.le_of_ble_eq_true rfl)) dX11_moves_92 ⟨Nat.le_of_ble_eq_true rfl, Nat.le_of_ble_eq_true rfl⟩) hP hD hS hA (fun r_2 u H locs hw_3 hP hD hS => ?_)
    obtain ⟨ws_4, rfl⟩ : ∃ z, z = u := ⟨_, rfl⟩
    obtain ⟨hT, rfl⟩ := hw_3
    have hP : va_P D vwCl ([(rf_MO mo mw ma mf m0 m1 mu mv u0 u1 iz th mb mn mpt mbg mwr mwk mlf men), (rf_RW ct 0 mw 958 f)] ++ ws_4) H := hP
    have hD : va_D A ([(rf_MO mo mw ma mf m0 m1 mu mv u0 u1 iz th mb mn mpt mbg mwr mwk mlf men), (rf_RW ct 0 mw 958 f)] ++ ws_4) := hD
    refine lv_iload_n hx hb dX11_moves_95 rfl (lv_at hl 2 rfl) ?_
    refine lv_iadd hx hb dX11_moves_96 ?_
    refine ty_kv (wr := []) (wc := ([(rf_MO mo mw ma mf m0 m1 mu mv u0 u1 iz th mb mn mpt mbg mwr mwk mlf men), (rf_RW ct 0 mw 958 f)] ++ ws_4)) (va_runV (As := [.int p1, .int 6, .int ((rf_of f p1 6) + p2)]) (rest := []) ⟨hx, hb, hml, hown, hts⟩ (m_put_6 l D ct S ws_4 ph xx mo mw ma mf m0 m1 mu mv u0 u1 iz mb th mn mpt mbg mwr mwk mlf men f G cx p1 ((rf_of f p1 6) + p2) _ hT h_mu h_mv h_u0 h_u1 hph hy1 hR hc (rf_mv3 hR hc hi (cm_nle9 hc_1))) (cm_V 3 hts kc_X11_put ki_RX11 kl_RX11_234 kv_X11_put kx_X11_put kd_X11_put ⟨Nat.le_of_ble_eq_true rfl, Nat.le_of_ble_eq_true rfl⟩) (ty_preE (wr := []) (wc := ([(rf_MO mo mw ma mf m0 m1 mu mv u0 u1 iz th mb mn mpt mbg mwr mwk mlf men), (rf_RW ct 0 mw 958 f)] ++ ws_4)) (ci := 11) (q0 := 0) hP hK hD hS hA hX rfl rfl) rfl rfl hl.1 rfl (lv_room (Nat.le_of_ble_eq_true rfl)) dX11_moves_97 ⟨Nat.le_of_ble_eq_true rfl, Nat.le_of_ble_eq_true rfl⟩) hP hD hS hA (fun u H locs hw_6 hP hD hS => ?_)
    obtain ⟨ws_7, f1_8⟩ := u
    obtain ⟨hT, hp_9⟩ := hw_6
    have hp_9 : rf_d (f 8) f f1_8 ∧ rf_R G cx f1_8 ∧ rf_sm f f1_8 ∧ f1_8 = upd f (244 + 54 * p1.toInt.toNat + 6) ((rf_of f p1 6) + p2) := hp_9
    obtain ⟨hd_10, hq_11⟩ := hp_9
    have hD_12 := rf_dt (rf_dr f) hd_10
    have hR_13 := hq_11.1
    have hM_14 := rf_smt (rf_smr f) hq_11.2.1
    have hP : va_P D vwCl ([(rf_MO mo mw ma mf m0 m1 mu mv u0 u1 iz th mb mn mpt mbg mwr mwk mlf men), (rf_RW ct 0 mw 958 f1_8)] ++ ws_7) H := hP
    have hD : va_D A ([(rf_MO mo mw ma mf m0 m1 mu mv u0 u1 iz th mb mn mpt mbg mwr mwk mlf men), (rf_RW ct 0 mw 958 f1_8)] ++ ws_7) := hD
    refine lv_aload_n hx hb dX11_moves_100 rfl (lv_at hl 0 rfl) ?_
    refine lv_iload_n hx hb dX11_moves_101 rfl (lv_at hl 1 rfl) ?_
    refine lv_iconst (v := 1) hx hb dX11_moves_102 (by decide) ?_
    refine lv_iload_n hx hb dX11_moves_103 rfl (lv_at hl 2 rfl) ?_
    refine lv_ineg hx hb dX11_moves_104 ?_
    refine lv_topi (fun x_15 _ => ?_)
    refine lv_i2l hx hb dX11_moves_105 rfl ?_
    refine lv_topl (fun x_16 _ => ?_)
    have hP : va_P D vwCl ([(rf_RW ct 0 mw 958 f1_8), (rf_MO mo mw ma mf m0 m1 mu mv u0 u1 iz th mb mn mpt mbg mwr mwk mlf men)] ++ ws_7) H := ty_permP hP (ty_ordp (E := [(rf_MO mo mw ma mf m0 m1 mu mv u0 u1 iz th mb mn mpt mbg mwr mwk mlf men), (rf_RW ct 0 mw 958 f1_8)]) (E2 := [(rf_RW ct 0 mw 958 f1_8), (rf_MO mo mw ma mf m0 m1 mu mv u0 u1 iz th mb mn mpt mbg mwr mwk mlf men)]) (n := 2) [1, 0] rfl rfl (by decide))
    have hD : va_D A ([(rf_RW ct 0 mw 958 f1_8), (rf_MO mo mw ma mf m0 m1 mu mv u0 u1 iz th mb mn mpt mbg mwr mwk mlf men)] ++ ws_7) := ty_permD hD (ty_ordp (E := [(rf_MO mo mw ma mf m0 m1 mu mv u0 u1 iz th mb mn mpt mbg mwr mwk mlf men), (rf_RW ct 0 mw 958 f1_8)]) (E2 := [(rf_RW ct 0 mw 958 f1_8), (rf_MO mo mw ma mf m0 m1 mu mv u0 u1 iz th mb mn mpt mbg mwr mwk mlf men)]) (n := 2) [1, 0] rfl rfl (by decide))
    refine ty_kv (wr := [(rf_RW ct 0 mw 958 f1_8)]) (wc := ([(rf_MO mo mw ma mf m0 m1 mu mv u0 u1 iz th mb mn mpt mbg mwr mwk mlf men)] ++ ws_7)) (va_runV (As := [.int p1, .int 1, .long x_16]) (rest := []) ⟨hx, hb, hml, hown, hts⟩ (m_X11_adds l D ct S ws_7 ph xx mo mw ma mf m0 m1 mu mv u0 u1 iz mb th mn mpt mbg mwr mwk mlf men p1 (1 : Int32) x_16 _ hT h_mu h_mv h_u0 h_u1 hph hy1 hy11 (rf_c6 hR_13 hc) (by decide)) (cm_V 3 hts kc_X11_adds ki_RX11 kl_RX11_238 kv_X11_adds kx_X11_adds kd_X11_adds ⟨Nat.le_of_ble_eq_true rfl, Nat.le_of_ble_eq_true rfl⟩) (ty_preE (wr := [(rf_RW ct 0 mw 958 f1_8)]) (wc := ([(rf_MO mo mw ma mf m0 m1 mu mv u0 u1 iz th mb mn mpt mbg mwr mwk mlf men)] ++ ws_7)) (ci := 11) (q0 := 1) hP hK hD hS hA hX rfl rfl) rfl rfl hl.1 rfl (lv_room (Nat.le_of_ble_eq_true rfl)) dX11_moves_106 ⟨Nat.le_of_ble_eq_true rfl, Nat.le_of_ble_eq_true rfl⟩) hP hD hS hA (fun u H locs hw_18 hP hD hS => ?_)
    obtain ⟨ws_19, rfl⟩ : ∃ z, z = u := ⟨_, rfl⟩
    have hT := hw_18
    have hP : va_P D vwCl ([(rf_RW ct 0 mw 958 f1_8), (rf_MO mo mw ma mf m0 m1 mu mv u0 u1 iz th mb mn mpt mbg mwr mwk mlf men)] ++ ws_19) H := hP
    have hD : va_D A ([(rf_RW ct 0 mw 958 f1_8), (rf_MO mo mw ma mf m0 m1 mu mv u0 u1 iz th mb mn mpt mbg mwr mwk mlf men)] ++ ws_19) := hD
    refine lv_aload_n hx hb dX11_moves_109 rfl (lv_at hl 0 rfl) ?_
    refine lv_iload_n hx hb dX11_moves_110 rfl (lv_at hl 1 rfl) ?_
    refine lv_iconst (v := 5) hx hb dX11_moves_111 (by decide) ?_
    refine lv_iload_n hx hb dX11_moves_112 rfl (lv_at hl 2 rfl) ?_
    refine lv_ineg hx hb dX11_moves_113 ?_
    refine lv_topi (fun x_20 _ => ?_)
    refine lv_i2l hx hb dX11_moves_114 rfl ?_
    refine lv_topl (fun x_21 _ => ?_)
    refine ty_kv (wr := [(rf_RW ct 0 mw 958 f1_8)]) (wc := ([(rf_MO mo mw ma mf m0 m1 mu mv u0 u1 iz th mb mn mpt mbg mwr mwk mlf men)] ++ ws_19)) (va_runV (As := [.int p1, .int 5, .long x_21]) (rest := []) ⟨hx, hb, hml, hown, hts⟩ (m_X11_adds l D ct S ws_19 ph xx mo mw ma mf m0 m1 mu mv u0 u1 iz mb th mn mpt mbg mwr mwk mlf men p1 (5 : Int32) x_21 _ hT h_mu h_mv h_u0 h_u1 hph hy1 hy11 (rf_c6 hR_13 hc) (by decide)) (cm_V 3 hts kc_X11_adds ki_RX11 kl_RX11_238 kv_X11_adds kx_X11_adds kd_X11_adds ⟨Nat.le_of_ble_eq_true rfl, Nat.le_of_ble_eq_true rfl⟩) (ty_preE (wr := [(rf_RW ct 0 mw 958 f1_8)]) (wc := ([(rf_MO mo mw ma mf m0 m1 mu mv u0 u1 iz th mb mn mpt mbg mwr mwk mlf men)] ++ ws_19)) (ci := 11) (q0 := 1) hP hK hD hS hA hX rfl rfl) rfl rfl hl.1 rfl (lv_room (Nat.le_of_ble_eq_true rfl)) dX11_moves_115 ⟨Nat.le_of_ble_eq_true rfl, Nat.le_of_ble_eq_true rfl⟩) hP hD hS hA (fun u H locs hw_23 hP hD hS => ?_)
    obtain ⟨ws_24, rfl⟩ : ∃ z, z = u := ⟨_, rfl⟩
    have hT := hw_23
    have hP : va_P D vwCl ([(rf_RW ct 0 mw 958 f1_8), (rf_MO mo mw ma mf m0 m1 mu mv u0 u1 iz th mb mn mpt mbg mwr mwk mlf men)] ++ ws_24) H := hP
    have hD : va_D A ([(rf_RW ct 0 mw 958 f1_8), (rf_MO mo mw ma mf m0 m1 mu mv u0 u1 iz th mb mn mpt mbg mwr mwk mlf men)] ++ ws_24) := hD
    have hP : va_P D vwCl ([(rf_MO mo mw ma mf m0 m1 mu mv u0 u1 iz th mb mn mpt mbg mwr mwk mlf men), (rf_RW ct 0 mw 958 f1_8)] ++ ws_24) H := ty_permP hP (ty_ordp (E := [(rf_RW ct 0 mw 958 f1_8), (rf_MO mo mw ma mf m0 m1 mu mv u0 u1 iz th mb mn mpt mbg mwr mwk mlf men)]) (E2 := [(rf_MO mo mw ma mf m0 m1 mu mv u0 u1 iz th mb mn mpt mbg mwr mwk mlf men), (rf_RW ct 0 mw 958 f1_8)]) (n := 2) [1, 0] rfl rfl (by decide))
    have hD : va_D A ([(rf_MO mo mw ma mf m0 m1 mu mv u0 u1 iz th mb mn mpt mbg mwr mwk mlf men), (rf_RW ct 0 mw 958 f1_8)] ++ ws_24) := ty_permD hD (ty_ordp (E := [(rf_RW ct 0 mw 958 f1_8), (rf_MO mo mw ma mf m0 m1 mu mv u0 u1 iz th mb mn mpt mbg mwr mwk mlf men)]) (E2 := [(rf_MO mo mw ma mf m0 m1 mu mv u0 u1 iz th mb mn mpt mbg mwr mwk mlf men), (rf_RW ct 0 mw 958 f1_8)]) (n := 2) [1, 0] rfl rfl (by decide))
    exact W.vret hx hb hr (fun t ht hW => ⟨⟨(ws_24, f1_8), rfl, ⟨hT, ⟨hD_12, hR_13, hM_14⟩⟩, by rw [ht]; exact hP, by rw [hAe]; exact hD⟩, hS.F ht⟩) hS.2.2 dX11_moves_118
  · refine lv_iload_n hx hb dX11_moves_4 rfl (lv_at hl 2 rfl) ?_
    refine lv_aload_n hx hb dX11_moves_5 rfl (lv_at hl 0 rfl) ?_
    refine va_get (v := .ref mw) (D := D) (ci := 11) (C := RX11) (T := TX11) (N := 19) hx hb hts in_X11 hown hK hP 0 rfl rfl 0 (by decide) (hts _ kl_RX11_9) (fun _ h9 => h9) rfl dX11_moves_6 ?_
    refine lv_iconst (v := 0) hx hb dX11_moves_9 (by decide) ?_
    refine va_iald hx hb hK hP 1 0 rfl rfl (cm_vin (by decide)) dX11_moves_10 ?_
    refine cm_cst (y := (f 0)) (by first | rfl | decide +kernel) ?_
    refine lv_imul hx hb dX11_moves_11 ?_
    refine lv_aload_n hx hb dX11_moves_12 rfl (lv_at hl 0 rfl) ?_
    refine lv_iload_n hx hb dX11_moves_13 rfl (lv_at hl 1 rfl) ?_
    refine lv_bipush (v := 16) hx hb dX11_moves_14 (by decide) ?_
    refine ty_ki (wr := []) (wc := ([(rf_MO mo mw ma mf m0 m1 mu mv u0 u1 iz th mb mn mpt mbg mwr mwk mlf men), (rf_RW ct 0 mw 958 f)] ++ ws)) (va_runV (As := [.int p1, .int 16]) (rest := [.int (p2 * (f 0))]) ⟨hx, hb, hml, hown, hts⟩ (m_of_16 l D ct S ws ph xx mo mw ma mf m0 m1 mu mv u0 u1 iz mb th mn mpt mbg mwr mwk mlf men f G cx p1 _ hT h_mu h_mv h_u0 h_u1 hph hy1 hR hc) (cm_V 2 hts kc_X11_of ki_RX11 kl_RX11_209 kv_X11_of kx_X11_of kd_X11_of ⟨Nat.le_of_ble_eq_true rfl, Nat.le_of_ble_eq_true rfl⟩) (ty_preE (wr := []) (wc := ([(rf_MO mo mw ma mf m0 m1 mu mv u0 u1 iz th mb mn mpt mbg mwr mwk mlf men), (rf_RW ct 0 mw 958 f)] ++ ws)) (ci := 11) (q0 := 0) hP hK hD hS hA hX rfl rfl) rfl rfl hl.1 rfl (lv_room (Nat.le_of_ble_eq_true rfl)) dX11_moves_16 ⟨Nat.le_of_ble_eq_true rfl, Nat.le_of_ble_eq_true rfl⟩) hP hD hS hA (fun r_25 u H locs hw_26 hP hD hS => ?_)
    obtain ⟨ws_27, rfl⟩ : ∃ z, z = u := ⟨_, rfl⟩
    obtain ⟨hT, rfl⟩ := hw_26
    have hP : va_P D vwCl ([(rf_MO mo mw ma mf m0 m1 mu mv u0 u1 iz th mb mn mpt mbg mwr mwk mlf men), (rf_RW ct 0 mw 958 f)] ++ ws_27) H := hP
    have hD : va_D A ([(rf_MO mo mw ma mf m0 m1 mu mv u0 u1 iz th mb mn mpt mbg mwr mwk mlf men), (rf_RW ct 0 mw 958 f)] ++ ws_27) := hD
    refine lv_iadd hx hb dX11_moves_19 ?_
    refine lv_istore_n (lv' := [(3, .int ((p2 * (f 0)) + (rf_of f p1 16))), (0, .ref mo), (1, .int p1), (2, .int p2)]) hx hb dX11_moves_20 rfl hl (by decide) rfl (fun ls hl => ?_)
    refine lv_aload_n hx hb dX11_moves_21 rfl (lv_at hl 1 rfl) ?_
    refine lv_iload_n hx hb dX11_moves_22 rfl (lv_at hl 2 rfl) ?_
    refine lv_bipush (v := 6) hx hb dX11_moves_23 (by decide) ?_
    refine lv_iconst (v := 2) hx hb dX11_moves_25 (by decide) ?_
    refine lv_aload_n hx hb dX11_moves_26 rfl (lv_at hl 1 rfl) ?_
    refine lv_iload_n hx hb dX11_moves_27 rfl (lv_at hl 2 rfl) ?_
    refine lv_bipush (v := 12) hx hb dX11_moves_28 (by decide) ?_
    refine ty_ki (wr := []) (wc := ([(rf_MO mo mw ma mf m0 m1 mu mv u0 u1 iz th mb mn mpt mbg mwr mwk mlf men), (rf_RW ct 0 mw 958 f)] ++ ws_27)) (va_runV (As := [.int p1, .int 12]) (rest := [.int 2, .int 6, .int p1, .ref mo]) ⟨hx, hb, hml, hown, hts⟩ (m_of_12 l D ct S ws_27 ph xx mo mw ma mf m0 m1 mu mv u0 u1 iz mb th mn mpt mbg mwr mwk mlf men f G cx p1 _ hT h_mu h_mv h_u0 h_u1 hph hy1 hR hc) (cm_V 2 hts kc_X11_of ki_RX11 kl_RX11_209 kv_X11_of kx_X11_of kd_X11_of ⟨Nat.le_of_ble_eq_true rfl, Nat.le_of_ble_eq_true rfl⟩) (ty_preE (wr := []) (wc := ([(rf_MO mo mw ma mf m0 m1 mu mv u0 u1 iz th mb mn mpt mbg mwr mwk mlf men), (rf_RW ct 0 mw 958 f)] ++ ws_27)) (ci := 11) (q0 := 0) hP hK hD hS hA hX rfl rfl) rfl rfl hl.1 rfl (lv_room (Nat.le_of_ble_eq_true rfl)) dX11_moves_30 ⟨Nat.le_of_ble_eq_true rfl, Nat.le_of_ble_eq_true rfl⟩) hP hD hS hA (fun r_28 u H locs hw_29 hP hD hS => ?_)
    obtain ⟨ws_30, rfl⟩ : ∃ z, z = u := ⟨_, rfl⟩
    obtain ⟨hT, rfl⟩ := hw_29
    have hP : va_P D vwCl ([(rf_MO mo mw ma mf m0 m1 mu mv u0 u1 iz th mb mn mpt mbg mwr mwk mlf men), (rf_RW ct 0 mw 958 f)] ++ ws_30) H := hP
    have hD : va_D A ([(rf_MO mo mw ma mf m0 m1 mu mv u0 u1 iz th mb mn mpt mbg mwr mwk mlf men), (rf_RW ct 0 mw 958 f)] ++ ws_30) := hD
    refine lv_imul hx hb dX11_moves_33 ?_
    refine lv_aload_n hx hb dX11_moves_34 rfl (lv_at hl 1 rfl) ?_
    refine lv_iload_n hx hb dX11_moves_35 rfl (lv_at hl 2 rfl) ?_
    refine lv_bipush (v := 6) hx hb dX11_moves_36 (by decide) ?_
    refine ty_ki (wr := []) (wc := ([(rf_MO mo mw ma mf m0 m1 mu mv u0 u1 iz th mb mn mpt mbg mwr mwk mlf men), (rf_RW ct 0 mw 958 f)] ++ ws_30)) (va_runV (As := [.int p1, .int 6]) (rest := [.int (2 * (rf_of f p1 12)), .int 6, .int p1, .ref mo]) ⟨hx, hb, hml, hown, hts⟩ (m_of_6 l D ct S ws_30 ph xx mo mw ma mf m0 m1 mu mv u0 u1 iz mb th mn mpt mbg mwr mwk mlf men f G cx p1 _ hT h_mu h_mv h_u0 h_u1 hph hy1 hR hc) (cm_V 2 hts kc_X11_of ki_RX11 kl_RX11_209 kv_X11_of kx_X11_of kd_X11_of ⟨Nat.le_of_ble_eq_true rfl, Nat.le_of_ble_eq_true rfl⟩) (ty_preE (wr := []) (wc := ([(rf_MO mo mw ma mf m0 m1 mu mv u0 u1 iz th mb mn mpt mbg mwr mwk mlf men), (rf_RW ct 0 mw 958 f)] ++ ws_30)) (ci := 11) (q0 := 0) hP hK hD hS hA hX rfl rfl) rfl rfl hl.1 rfl (lv_room (Nat.le_of_ble_eq_true rfl)) dX11_moves_38 ⟨Nat.le_of_ble_eq_true rfl, Nat.le_of_ble_eq_true rfl⟩) hP hD hS hA (fun r_31 u H locs hw_32 hP hD hS => ?_)
    obtain ⟨ws_33, rfl⟩ : ∃ z, z = u := ⟨_, rfl⟩
    obtain ⟨hT, rfl⟩ := hw_32
    have hP : va_P D vwCl ([(rf_MO mo mw ma mf m0 m1 mu mv u0 u1 iz th mb mn mpt mbg mwr mwk mlf men), (rf_RW ct 0 mw 958 f)] ++ ws_33) H := hP
    have hD : va_D A ([(rf_MO mo mw ma mf m0 m1 mu mv u0 u1 iz th mb mn mpt mbg mwr mwk mlf men), (rf_RW ct 0 mw 958 f)] ++ ws_33) := hD
    refine lv_iload_n hx hb dX11_moves_41 rfl (lv_at hl 0 rfl) ?_
    refine lv_sipush (v := 1000) hx hb dX11_moves_42 (by decide) ?_
    refine lv_idiv hx hb dX11_moves_45 (by decide) ?_
    refine lv_iadd hx hb dX11_moves_46 ?_
    refine va_mmin hx hb (hml.trans hl.1.symm) hown (hts _ kl_RX11_184) (hts _ jm_min_s) (hts _ ki_RJ9) (hts _ jm_min_c) (Nat.le_of_ble_eq_true rfl) (Nat.le_of_ble_eq_true rfl) (Nat.le_of_ble_eq_true rfl) (Nat.le_of_ble_eq_true rfl) dX11_moves_47 ?_
    refine ty_kv (wr := []) (wc := ([(rf_MO mo mw ma mf m0 m1 mu mv u0 u1 iz th mb mn mpt mbg mwr mwk mlf men), (rf_RW ct 0 mw 958 f)] ++ ws_33)) (va_runV (As := [.int p1, .int 6, .int (if ((rf_of f p1 6) + (((p2 * (f 0)) + (rf_of f p1 16)) / 1000)) < (2 * (rf_of f p1 12)) then ((rf_of f p1 6) + (((p2 * (f 0)) + (rf_of f p1 16)) / 1000)) else (2 * (rf_of f p1 12)))]) (rest := []) ⟨hx, hb, hml, hown, hts⟩ (m_put_6 l D ct S ws_33 ph xx mo mw ma mf m0 m1 mu mv u0 u1 iz mb th mn mpt mbg mwr mwk mlf men f G cx p1 (if ((rf_of f p1 6) + (((p2 * (f 0)) + (rf_of f p1 16)) / 1000)) < (2 * (rf_of f p1 12)) then ((rf_of f p1 6) + (((p2 * (f 0)) + (rf_of f p1 16)) / 1000)) else (2 * (rf_of f p1 12))) _ hT h_mu h_mv h_u0 h_u1 hph hy1 hR hc (rf_mv1 hR hc (rf_all ⟨by have := (cm_lt9 hc_1); rw [Int32.lt_iff_toInt_lt, show (0 : Int32).toInt = 0 from by decide] at this; omega, hi.2⟩ (rf_hs hR).2.2 (rf_lr hR hc)))) (cm_V 3 hts kc_X11_put ki_RX11 kl_RX11_234 kv_X11_put kx_X11_put kd_X11_put ⟨Nat.le_of_ble_eq_true rfl, Nat.le_of_ble_eq_true rfl⟩) (ty_preE (wr := []) (wc := ([(rf_MO mo mw ma mf m0 m1 mu mv u0 u1 iz th mb mn mpt mbg mwr mwk mlf men), (rf_RW ct 0 mw 958 f)] ++ ws_33)) (ci := 11) (q0 := 0) hP hK hD hS hA hX rfl rfl) rfl rfl hl.1 rfl (lv_room (Nat.le_of_ble_eq_true rfl)) dX11_moves_50 ⟨Nat.le_of_ble_eq_true rfl, Nat.le_of_ble_eq_true rfl⟩) hP hD hS hA (fun u H locs hw_35 hP hD hS => ?_)
    obtain ⟨ws_36, f1_37⟩ := u
    obtain ⟨hT, hp_38⟩ := hw_35
    have hp_38 : rf_d (f 8) f f1_37 ∧ rf_R G cx f1_37 ∧ rf_sm f f1_37 ∧ f1_37 = upd f (244 + 54 * p1.toInt.toNat + 6) (if ((rf_of f p1 6) + (((p2 * (f 0)) + (rf_of f p1 16)) / 1000)) < (2 * (rf_of f p1 12)) then ((rf_of f p1 6) + (((p2 * (f 0)) + (rf_of f p1 16)) / 1000)) else (2 * (rf_of f p1 12))) := hp_38
    obtain ⟨hd_39, hq_40⟩ := hp_38
    have hD_41 := rf_dt (rf_dr f) hd_39
    have hR_42 := hq_40.1
    have hM_43 := rf_smt (rf_smr f) hq_40.2.1
    have hP : va_P D vwCl ([(rf_MO mo mw ma mf m0 m1 mu mv u0 u1 iz th mb mn mpt mbg mwr mwk mlf men), (rf_RW ct 0 mw 958 f1_37)] ++ ws_36) H := hP
    have hD : va_D A ([(rf_MO mo mw ma mf m0 m1 mu mv u0 u1 iz th mb mn mpt mbg mwr mwk mlf men), (rf_RW ct 0 mw 958 f1_37)] ++ ws_36) := hD
    refine lv_aload_n hx hb dX11_moves_53 rfl (lv_at hl 1 rfl) ?_
    refine lv_iload_n hx hb dX11_moves_54 rfl (lv_at hl 2 rfl) ?_
    refine lv_bipush (v := 16) hx hb dX11_moves_55 (by decide) ?_
    refine lv_iload_n hx hb dX11_moves_57 rfl (lv_at hl 0 rfl) ?_
    refine lv_sipush (v := 1000) hx hb dX11_moves_58 (by decide) ?_
    refine lv_irem hx hb dX11_moves_61 (by decide) ?_
    refine ty_kv (wr := []) (wc := ([(rf_MO mo mw ma mf m0 m1 mu mv u0 u1 iz th mb mn mpt mbg mwr mwk mlf men), (rf_RW ct 0 mw 958 f1_37)] ++ ws_36)) (va_runV (As := [.int p1, .int 16, .int (((p2 * (f 0)) + (rf_of f p1 16)) - ((((p2 * (f 0)) + (rf_of f p1 16)) / 1000) * 1000))]) (rest := []) ⟨hx, hb, hml, hown, hts⟩ (m_put_16 l D ct S ws_36 ph xx mo mw ma mf m0 m1 mu mv u0 u1 iz mb th mn mpt mbg mwr mwk mlf men f1_37 G cx p1 (((p2 * (f 0)) + (rf_of f p1 16)) - ((((p2 * (f 0)) + (rf_of f p1 16)) / 1000) * 1000)) _ hT h_mu h_mv h_u0 h_u1 hph hy1 hR_42 hc (rf_mv2b (rf_all ⟨by have := (cm_lt9 hc_1); rw [Int32.lt_iff_toInt_lt, show (0 : Int32).toInt = 0 from by decide] at this; omega, hi.2⟩ (rf_hs hR).2.2 (rf_lr hR hc)))) (cm_V 3 hts kc_X11_put ki_RX11 kl_RX11_234 kv_X11_put kx_X11_put kd_X11_put ⟨Nat.le_of_ble_eq_true rfl, Nat.le_of_ble_eq_true rfl⟩) (ty_preE (wr := []) (wc := ([(rf_MO mo mw ma mf m0 m1 mu mv u0 u1 iz th mb mn mpt mbg mwr mwk mlf men), (rf_RW ct 0 mw 958 f1_37)] ++ ws_36)) (ci := 11) (q0 := 0) hP hK hD hS hA hX rfl rfl) rfl rfl hl.1 rfl (lv_room (Nat.le_of_ble_eq_true rfl)) dX11_moves_62 ⟨Nat.le_of_ble_eq_true rfl, Nat.le_of_ble_eq_true rfl⟩) hP hD hS hA (fun u H locs hw_45 hP hD hS => ?_)
    obtain ⟨ws_46, f1_47⟩ := u
    obtain ⟨hT, hp_48⟩ := hw_45
    have hp_48 : rf_d (f1_37 8) f1_37 f1_47 ∧ rf_R G cx f1_47 ∧ rf_sm f1_37 f1_47 ∧ f1_47 = upd f1_37 (244 + 54 * p1.toInt.toNat + 16) (((p2 * (f 0)) + (rf_of f p1 16)) - ((((p2 * (f 0)) + (rf_of f p1 16)) / 1000) * 1000)) := hp_48
    obtain ⟨hd_49, hq_50⟩ := hp_48
    have hD_51 := rf_dt hD_41 hd_49
    have hR_52 := hq_50.1
    have hM_53 := rf_smt hM_43 hq_50.2.1
    have hP : va_P D vwCl ([(rf_MO mo mw ma mf m0 m1 mu mv u0 u1 iz th mb mn mpt mbg mwr mwk mlf men), (rf_RW ct 0 mw 958 f1_47)] ++ ws_46) H := hP
    have hD : va_D A ([(rf_MO mo mw ma mf m0 m1 mu mv u0 u1 iz th mb mn mpt mbg mwr mwk mlf men), (rf_RW ct 0 mw 958 f1_47)] ++ ws_46) := hD
    refine lv_aload_n hx hb dX11_moves_65 rfl (lv_at hl 1 rfl) ?_
    refine lv_iload_n hx hb dX11_moves_66 rfl (lv_at hl 2 rfl) ?_
    refine lv_iconst (v := 0) hx hb dX11_moves_67 (by decide) ?_
    refine lv_iload_n hx hb dX11_moves_68 rfl (lv_at hl 3 rfl) ?_
    refine lv_i2l hx hb dX11_moves_69 rfl ?_
    refine lv_topl (fun x_54 _ => ?_)
    have hP : va_P D vwCl ([(rf_RW ct 0 mw 958 f1_47), (rf_MO mo mw ma mf m0 m1 mu mv u0 u1 iz th mb mn mpt mbg mwr mwk mlf men)] ++ ws_46) H := ty_permP hP (ty_ordp (E := [(rf_MO mo mw ma mf m0 m1 mu mv u0 u1 iz th mb mn mpt mbg mwr mwk mlf men), (rf_RW ct 0 mw 958 f1_47)]) (E2 := [(rf_RW ct 0 mw 958 f1_47), (rf_MO mo mw ma mf m0 m1 mu mv u0 u1 iz th mb mn mpt mbg mwr mwk mlf men)]) (n := 2) [1, 0] rfl rfl (by decide))
    have hD : va_D A ([(rf_RW ct 0 mw 958 f1_47), (rf_MO mo mw ma mf m0 m1 mu mv u0 u1 iz th mb mn mpt mbg mwr mwk mlf men)] ++ ws_46) := ty_permD hD (ty_ordp (E := [(rf_MO mo mw ma mf m0 m1 mu mv u0 u1 iz th mb mn mpt mbg mwr mwk mlf men), (rf_RW ct 0 mw 958 f1_47)]) (E2 := [(rf_RW ct 0 mw 958 f1_47), (rf_MO mo mw ma mf m0 m1 mu mv u0 u1 iz th mb mn mpt mbg mwr mwk mlf men)]) (n := 2) [1, 0] rfl rfl (by decide))
    refine ty_kv (wr := [(rf_RW ct 0 mw 958 f1_47)]) (wc := ([(rf_MO mo mw ma mf m0 m1 mu mv u0 u1 iz th mb mn mpt mbg mwr mwk mlf men)] ++ ws_46)) (va_runV (As := [.int p1, .int 0, .long x_54]) (rest := []) ⟨hx, hb, hml, hown, hts⟩ (m_X11_adds l D ct S ws_46 ph xx mo mw ma mf m0 m1 mu mv u0 u1 iz mb th mn mpt mbg mwr mwk mlf men p1 (0 : Int32) x_54 _ hT h_mu h_mv h_u0 h_u1 hph hy1 hy11 (rf_c6 hR_52 hc) (by decide)) (cm_V 3 hts kc_X11_adds ki_RX11 kl_RX11_238 kv_X11_adds kx_X11_adds kd_X11_adds ⟨Nat.le_of_ble_eq_true rfl, Nat.le_of_ble_eq_true rfl⟩) (ty_preE (wr := [(rf_RW ct 0 mw 958 f1_47)]) (wc := ([(rf_MO mo mw ma mf m0 m1 mu mv u0 u1 iz th mb mn mpt mbg mwr mwk mlf men)] ++ ws_46)) (ci := 11) (q0 := 1) hP hK hD hS hA hX rfl rfl) rfl rfl hl.1 rfl (lv_room (Nat.le_of_ble_eq_true rfl)) dX11_moves_70 ⟨Nat.le_of_ble_eq_true rfl, Nat.le_of_ble_eq_true rfl⟩) hP hD hS hA (fun u H locs hw_56 hP hD hS => ?_)
    obtain ⟨ws_57, rfl⟩ : ∃ z, z = u := ⟨_, rfl⟩
    have hT := hw_56
    have hP : va_P D vwCl ([(rf_RW ct 0 mw 958 f1_47), (rf_MO mo mw ma mf m0 m1 mu mv u0 u1 iz th mb mn mpt mbg mwr mwk mlf men)] ++ ws_57) H := hP
    have hD : va_D A ([(rf_RW ct 0 mw 958 f1_47), (rf_MO mo mw ma mf m0 m1 mu mv u0 u1 iz th mb mn mpt mbg mwr mwk mlf men)] ++ ws_57) := hD
    refine lv_aload_n hx hb dX11_moves_73 rfl (lv_at hl 1 rfl) ?_
    refine lv_iload_n hx hb dX11_moves_74 rfl (lv_at hl 2 rfl) ?_
    refine lv_iconst (v := 4) hx hb dX11_moves_75 (by decide) ?_
    refine lv_iload_n hx hb dX11_moves_76 rfl (lv_at hl 3 rfl) ?_
    refine lv_i2l hx hb dX11_moves_77 rfl ?_
    refine lv_topl (fun x_58 _ => ?_)
    refine ty_kv (wr := [(rf_RW ct 0 mw 958 f1_47)]) (wc := ([(rf_MO mo mw ma mf m0 m1 mu mv u0 u1 iz th mb mn mpt mbg mwr mwk mlf men)] ++ ws_57)) (va_runV (As := [.int p1, .int 4, .long x_58]) (rest := []) ⟨hx, hb, hml, hown, hts⟩ (m_X11_adds l D ct S ws_57 ph xx mo mw ma mf m0 m1 mu mv u0 u1 iz mb th mn mpt mbg mwr mwk mlf men p1 (4 : Int32) x_58 _ hT h_mu h_mv h_u0 h_u1 hph hy1 hy11 (rf_c6 hR_52 hc) (by decide)) (cm_V 3 hts kc_X11_adds ki_RX11 kl_RX11_238 kv_X11_adds kx_X11_adds kd_X11_adds ⟨Nat.le_of_ble_eq_true rfl, Nat.le_of_ble_eq_true rfl⟩) (ty_preE (wr := [(rf_RW ct 0 mw 958 f1_47)]) (wc := ([(rf_MO mo mw ma mf m0 m1 mu mv u0 u1 iz th mb mn mpt mbg mwr mwk mlf men)] ++ ws_57)) (ci := 11) (q0 := 1) hP hK hD hS hA hX rfl rfl) rfl rfl hl.1 rfl (lv_room (Nat.le_of_ble_eq_true rfl)) dX11_moves_78 ⟨Nat.le_of_ble_eq_true rfl, Nat.le_of_ble_eq_true rfl⟩) hP hD hS hA (fun u H locs hw_60 hP hD hS => ?_)
    obtain ⟨ws_61, rfl⟩ : ∃ z, z = u := ⟨_, rfl⟩
    have hT := hw_60
    have hP : va_P D vwCl ([(rf_RW ct 0 mw 958 f1_47), (rf_MO mo mw ma mf m0 m1 mu mv u0 u1 iz th mb mn mpt mbg mwr mwk mlf men)] ++ ws_61) H := hP
    have hD : va_D A ([(rf_RW ct 0 mw 958 f1_47), (rf_MO mo mw ma mf m0 m1 mu mv u0 u1 iz th mb mn mpt mbg mwr mwk mlf men)] ++ ws_61) := hD
    refine lv_goto (tgt := 118) hx hb dX11_moves_81 (by decide) ?_
    have hP : va_P D vwCl ([(rf_MO mo mw ma mf m0 m1 mu mv u0 u1 iz th mb mn mpt mbg mwr mwk mlf men), (rf_RW ct 0 mw 958 f1_47)] ++ ws_61) H := ty_permP hP (ty_ordp (E := [(rf_RW ct 0 mw 958 f1_47), (rf_MO mo mw ma mf m0 m1 mu mv u0 u1 iz th mb mn mpt mbg mwr mwk mlf men)]) (E2 := [(rf_MO mo mw ma mf m0 m1 mu mv u0 u1 iz th mb mn mpt mbg mwr mwk mlf men), (rf_RW ct 0 mw 958 f1_47)]) (n := 2) [1, 0] rfl rfl (by decide))
    have hD : va_D A ([(rf_MO mo mw ma mf m0 m1 mu mv u0 u1 iz th mb mn mpt mbg mwr mwk mlf men), (rf_RW ct 0 mw 958 f1_47)] ++ ws_61) := ty_permD hD (ty_ordp (E := [(rf_RW ct 0 mw 958 f1_47), (rf_MO mo mw ma mf m0 m1 mu mv u0 u1 iz th mb mn mpt mbg mwr mwk mlf men)]) (E2 := [(rf_MO mo mw ma mf m0 m1 mu mv u0 u1 iz th mb mn mpt mbg mwr mwk mlf men), (rf_RW ct 0 mw 958 f1_47)]) (n := 2) [1, 0] rfl rfl (by decide))
    exact W.vret hx hb hr (fun t ht hW => ⟨⟨(ws_61, f1_47), rfl, ⟨hT, ⟨hD_51, hR_52, hM_53⟩⟩, by rw [ht]; exact hP, by rw [hAe]; exact hD⟩, hS.F ht⟩) hS.2.2 dX11_moves_118
theorem dX11_fades_0 : decode cX11_fades 0 = .ok (.aload_n 0, 1) := by decide +kernel
theorem dX11_fades_1 : decode cX11_fades 1 = .ok (.iload_n 1, 1) := by decide +kernel
theorem dX11_fades_2 : decode cX11_fades 2 = .ok (.bipush 18, 2) := by decide +kernel
theorem dX11_fades_4 : decode cX11_fades 4 = .ok (.invokevirtual 209, 3) := by decide +kernel
theorem dX11_fades_7 : decode cX11_fades 7 = .ok (.iload_n 2, 1) := by decide +kernel
theorem dX11_fades_8 : decode cX11_fades 8 = .ok (.invokestatic 242, 3) := by decide +kernel
theorem dX11_fades_11 : decode cX11_fades 11 = .ok (.iadd, 1) := by decide +kernel
theorem dX11_fades_12 : decode cX11_fades 12 = .ok (.istore_n 3, 1) := by decide +kernel
theorem dX11_fades_13 : decode cX11_fades 13 = .ok (.iload_n 3, 1) := by decide +kernel
theorem dX11_fades_14 : decode cX11_fades 14 = .ok (.aload_n 0, 1) := by decide +kernel
theorem dX11_fades_15 : decode cX11_fades 15 = .ok (.getfield 9, 3) := by decide +kernel
theorem dX11_fades_18 : decode cX11_fades 18 = .ok (.iconst 1, 1) := by decide +kernel
theorem dX11_fades_19 : decode cX11_fades 19 = .ok (.iaload, 1) := by decide +kernel
theorem dX11_fades_20 : decode cX11_fades 20 = .ok (.if_icmp .lt 43, 3) := by decide +kernel
theorem dX11_fades_23 : decode cX11_fades 23 = .ok (.iload_n 3, 1) := by decide +kernel
theorem dX11_fades_24 : decode cX11_fades 24 = .ok (.aload_n 0, 1) := by decide +kernel
theorem dX11_fades_25 : decode cX11_fades 25 = .ok (.getfield 9, 3) := by decide +kernel
theorem dX11_fades_28 : decode cX11_fades 28 = .ok (.iconst 1, 1) := by decide +kernel
theorem dX11_fades_29 : decode cX11_fades 29 = .ok (.iaload, 1) := by decide +kernel
theorem dX11_fades_30 : decode cX11_fades 30 = .ok (.isub, 1) := by decide +kernel
theorem dX11_fades_31 : decode cX11_fades 31 = .ok (.istore_n 3, 1) := by decide +kernel
theorem dX11_fades_32 : decode cX11_fades 32 = .ok (.aload_n 0, 1) := by decide +kernel
theorem dX11_fades_33 : decode cX11_fades 33 = .ok (.iload_n 1, 1) := by decide +kernel
theorem dX11_fades_34 : decode cX11_fades 34 = .ok (.bipush 7, 2) := by decide +kernel
theorem dX11_fades_36 : decode cX11_fades 36 = .ok (.aload_n 0, 1) := by decide +kernel
theorem dX11_fades_37 : decode cX11_fades 37 = .ok (.iload_n 1, 1) := by decide +kernel
theorem dX11_fades_38 : decode cX11_fades 38 = .ok (.bipush 12, 2) := by decide +kernel
theorem dX11_fades_40 : decode cX11_fades 40 = .ok (.invokevirtual 209, 3) := by decide +kernel
theorem dX11_fades_43 : decode cX11_fades 43 = .ok (.iconst 2, 1) := by decide +kernel
theorem dX11_fades_44 : decode cX11_fades 44 = .ok (.idiv, 1) := by decide +kernel
theorem dX11_fades_45 : decode cX11_fades 45 = .ok (.aload_n 0, 1) := by decide +kernel
theorem dX11_fades_46 : decode cX11_fades 46 = .ok (.iload_n 1, 1) := by decide +kernel
theorem dX11_fades_47 : decode cX11_fades 47 = .ok (.bipush 7, 2) := by decide +kernel
theorem dX11_fades_49 : decode cX11_fades 49 = .ok (.invokevirtual 209, 3) := by decide +kernel
theorem dX11_fades_52 : decode cX11_fades 52 = .ok (.iconst 1, 1) := by decide +kernel
theorem dX11_fades_53 : decode cX11_fades 53 = .ok (.isub, 1) := by decide +kernel
theorem dX11_fades_54 : decode cX11_fades 54 = .ok (.invokestatic 225, 3) := by decide +kernel
theorem dX11_fades_57 : decode cX11_fades 57 = .ok (.invokevirtual 234, 3) := by decide +kernel
theorem dX11_fades_60 : decode cX11_fades 60 = .ok (.goto (-47), 3) := by decide +kernel
theorem dX11_fades_63 : decode cX11_fades 63 = .ok (.aload_n 0, 1) := by decide +kernel
theorem dX11_fades_64 : decode cX11_fades 64 = .ok (.iload_n 1, 1) := by decide +kernel
theorem dX11_fades_65 : decode cX11_fades 65 = .ok (.bipush 18, 2) := by decide +kernel
theorem dX11_fades_67 : decode cX11_fades 67 = .ok (.iload_n 3, 1) := by decide +kernel
theorem dX11_fades_68 : decode cX11_fades 68 = .ok (.invokevirtual 234, 3) := by decide +kernel
theorem dX11_fades_71 : decode cX11_fades 71 = .ok (.return_, 1) := by decide +kernel
set_option maxRecDepth 100000 in
set_option maxHeartbeats 4000000 in
theorem m_X11_fades (l : Launch) (D : va_G) (ct : Nat → ClassId) (S : ty_S) (ws : va_W) (ph : va_W → Prop) (xx : Nat → Nat → Nat → Prop) (mo : Nat) (mw : Nat) (ma : Nat) (mf : Nat) (m0 : Nat) (m1 : Nat) (mu : Nat) (mv : Nat) (u0 : Nat) (u1 : Nat) (iz : Nat) (mb : Nat) (th : Int32) (mn : Int32) (mpt : Int32) (mbg : Int32) (mwr : Int32) (mwk : Int32) (mlf : Int32) (men : Int32) (f : Nat → Int32) (G : Nat → Int32) (cx : Int) (p1 : Int32) (p2 : Int32) (sz : Nat) (hT : ty_V ct S ph ws) (h_mu : S mu = some (.inr (1, 42))) (h_mv : S mv = some (.inr (1, 42))) (h_u0 : S u0 = some (.inr (1, 42))) (h_u1 : S u1 = some (.inr (1, 42))) (hph : ty_C ph xx) (hy1 : ty_y1 xx) (hR : rf_R G cx f) (hc : 0 ≤ p1.toInt ∧ p1.toInt < (G 9).toInt) : Met l yX11_fades (ws_ yX11_fades cX11_fades 4 none) ({ frames := 1, cells := 0, slots := 0, locals := 23 } : Room) (va_Pc [.ref mo, .int p1, .int p2] (cmP D ct sz ([(rf_MO mo mw ma mf m0 m1 mu mv u0 u1 iz th mb mn mpt mbg mwr mwk mlf men), (rf_RW ct 0 mw 958 f)] ++ ws))) (va_Qv (fun (u : va_W × (Nat → Int32)) => match u with | (u9, f1) => ty_V ct S ph u9 ∧ rf_d (f 8) f f1 ∧ rf_R G cx f1 ∧ rf_sm f f1) (cmB D ([(rf_MO mo mw ma mf m0 m1 mu mv u0 u1 iz th mb mn mpt mbg mwr mwk mlf men), (rf_RW ct 0 mw 958 f)] ++ ws) sz (fun (u : va_W × (Nat → Int32)) => match u with | (u9, f1) => ([(rf_MO mo mw ma mf m0 m1 mu mv u0 u1 iz th mb mn mpt mbg mwr mwk mlf men), (rf_RW ct 0 mw 958 f1)] ++ u9))) (va_A ([(rf_MO mo mw ma mf m0 m1 mu mv u0 u1 iz th mb mn mpt mbg mwr mwk mlf men), (rf_RW ct 0 mw 958 f)] ++ ws) sz)) 0 0 (va_A ([(rf_MO mo mw ma mf m0 m1 mu mv u0 u1 iz th mb mn mpt mbg mwr mwk mlf men), (rf_RW ct 0 mw 958 f)] ++ ws) sz) := by
  refine Met.ofW (cc := cX11_fades) (maxL := 4) (ret := none) (by decide) rfl ?_
  intro p e s m args below meth c s₁ B hml hv
  obtain ⟨rfl, hsz, hP, hK, hD0, hX⟩ := hv
  have hx := B.exec
  have hb := B.bytes
  have hr := B.returns
  have hts := ws_all (atoms_spec (ws := ws_ yX11_fades cX11_fades 4 none) B.pre)
  have hown : s.vm.findClass RX11 = some m.cls := findClass_of_methodNamed B.named
  have hlocks := B.notSynchronized
  subst hsz
  have hD := hD0.self (sz := s.heap.size)
  generalize hAe : va_A ([(rf_MO mo mw ma mf m0 m1 mu mv u0 u1 iz th mb mn mpt mbg mwr mwk mlf men), (rf_RW ct 0 mw 958 f)] ++ ws) s.heap.size = A at hD hX ⊢
  have hA : ∀ q : Nat, s.heap.size ≤ q → A q := fun q h => by rw [← hAe]; exact Or.inr h
  have hS : va_S A s.heap s.heap [] := va_S.rf
  have hl := lv_entry ([.ref mo, .int p1, .int p2]) (n := 4) (Nat.le_of_ble_eq_true rfl)
  rw [lg_entry_eq]
  generalize (lg_sl ([.ref mo, .int p1, .int p2]) ++ List.replicate (4 - (lg_sl ([.ref mo, .int p1, .int p2])).length) Slot.unset).toArray = ls at hl ⊢
  have hl : lv_has ls 4 [(0, .ref mo), (1, .int p1), (2, .int p2)] := hl
  refine lv_aload_n hx hb dX11_fades_0 rfl (lv_at hl 0 rfl) ?_
  refine lv_iload_n hx hb dX11_fades_1 rfl (lv_at hl 1 rfl) ?_
  refine lv_bipush (v := 18) hx hb dX11_fades_2 (by decide) ?_
  refine ty_ki (wr := []) (wc := ([(rf_MO mo mw ma mf m0 m1 mu mv u0 u1 iz th mb mn mpt mbg mwr mwk mlf men), (rf_RW ct 0 mw 958 f)] ++ ws)) (va_runV (As := [.int p1, .int 18]) (rest := []) ⟨hx, hb, hml, hown, hts⟩ (m_of_18 l D ct S ws ph xx mo mw ma mf m0 m1 mu mv u0 u1 iz mb th mn mpt mbg mwr mwk mlf men f G cx p1 _ hT h_mu h_mv h_u0 h_u1 hph hy1 hR hc) (cm_V 2 hts kc_X11_of ki_RX11 kl_RX11_209 kv_X11_of kx_X11_of kd_X11_of ⟨Nat.le_of_ble_eq_true rfl, Nat.le_of_ble_eq_true rfl⟩) (ty_preE (wr := []) (wc := ([(rf_MO mo mw ma mf m0 m1 mu mv u0 u1 iz th mb mn mpt mbg mwr mwk mlf men), (rf_RW ct 0 mw 958 f)] ++ ws)) (ci := 11) (q0 := 0) hP hK hD hS hA hX rfl rfl) rfl rfl hl.1 rfl (lv_room (Nat.le_of_ble_eq_true rfl)) dX11_fades_4 ⟨Nat.le_of_ble_eq_true rfl, Nat.le_of_ble_eq_true rfl⟩) hP hD hS hA (fun r_1 u H locs hw_2 hP hD hS => ?_)
  obtain ⟨ws_3, rfl⟩ : ∃ z, z = u := ⟨_, rfl⟩
  obtain ⟨hT, rfl⟩ := hw_2
  have hP : va_P D vwCl ([(rf_MO mo mw ma mf m0 m1 mu mv u0 u1 iz th mb mn mpt mbg mwr mwk mlf men), (rf_RW ct 0 mw 958 f)] ++ ws_3) H := hP
  have hD : va_D A ([(rf_MO mo mw ma mf m0 m1 mu mv u0 u1 iz th mb mn mpt mbg mwr mwk mlf men), (rf_RW ct 0 mw 958 f)] ++ ws_3) := hD
  refine lv_iload_n hx hb dX11_fades_7 rfl (lv_at hl 2 rfl) ?_
  refine va_mabs hx hb (hml.trans hl.1.symm) hown (hts _ kl_RX11_242) (hts _ jm_abs_s) (hts _ ki_RJ9) (hts _ jm_abs_c) (Nat.le_of_ble_eq_true rfl) (Nat.le_of_ble_eq_true rfl) (Nat.le_of_ble_eq_true rfl) (Nat.le_of_ble_eq_true rfl) dX11_fades_8 ?_
  refine lv_topi (fun x_4 _ => ?_)
  refine lv_iadd hx hb dX11_fades_11 ?_
  refine lv_istore_n (lv' := [(3, .int ((rf_of f p1 18) + x_4)), (0, .ref mo), (1, .int p1), (2, .int p2)]) hx hb dX11_fades_12 rfl hl (by decide) rfl (fun ls hl => ?_)
  refine ty_loop (I := fun μ H locs ls => ∃ (ws : va_W) (y_5 : Int32) (f_6 : Nat → Int32), μ = y_5.toInt.toNat ∧ ty_V ct S ph ws ∧ va_P D vwCl ([(rf_MO mo mw ma mf m0 m1 mu mv u0 u1 iz th mb mn mpt mbg mwr mwk mlf men), (rf_RW ct 0 mw 958 f_6)] ++ ws) H ∧ va_D A ([(rf_MO mo mw ma mf m0 m1 mu mv u0 u1 iz th mb mn mpt mbg mwr mwk mlf men), (rf_RW ct 0 mw 958 f_6)] ++ ws) ∧ va_S A s.heap H locs ∧ lv_has ls 4 [(0, .ref mo), (1, .int p1), (2, .int p2), (3, .int y_5)] ∧ rf_R G cx f_6 ∧ rf_sm f f_6 ∧ rf_d (f 8) f f_6) ⟨_, ws_3, ((rf_of f p1 18) + x_4), f, rfl, hT, hP, hD, hS, (lv_sub hl [1, 2, 3, 0] rfl), hR, (rf_smr f), (rf_dr f)⟩ (fun μ H locs ls hI ih_13 => ?_)
  obtain ⟨ws, y_5, f_6, rfl, hT, hP, hD, hS, hl, hR_13, hM_13, hD_13⟩ := hI
  refine lv_iload_n hx hb dX11_fades_13 rfl (lv_at hl 3 rfl) ?_
  refine lv_aload_n hx hb dX11_fades_14 rfl (lv_at hl 0 rfl) ?_
  refine va_get (v := .ref mw) (D := D) (ci := 11) (C := RX11) (T := TX11) (N := 19) hx hb hts in_X11 hown hK hP 0 rfl rfl 0 (by decide) (hts _ kl_RX11_9) (fun _ h9 => h9) rfl dX11_fades_15 ?_
  refine lv_iconst (v := 1) hx hb dX11_fades_18 (by decide) ?_
  refine va_iald hx hb hK hP 1 0 rfl rfl (cm_vin (by decide)) dX11_fades_19 ?_
  refine cm_cst (y := (f_6 1)) (by first | rfl | decide +kernel) ?_
  refine lv_icmp_lt (tgt := 63) hx hb dX11_fades_20 (by decide) (fun hc_7 => ?_) (fun hc_7 => ?_)
  · refine lv_aload_n hx hb dX11_fades_63 rfl (lv_at hl 0 rfl) ?_
    refine lv_iload_n hx hb dX11_fades_64 rfl (lv_at hl 1 rfl) ?_
    refine lv_bipush (v := 18) hx hb dX11_fades_65 (by decide) ?_
    refine lv_iload_n hx hb dX11_fades_67 rfl (lv_at hl 3 rfl) ?_
    refine ty_kv (wr := []) (wc := ([(rf_MO mo mw ma mf m0 m1 mu mv u0 u1 iz th mb mn mpt mbg mwr mwk mlf men), (rf_RW ct 0 mw 958 f_6)] ++ ws)) (va_runV (As := [.int p1, .int 18, .int y_5]) (rest := []) ⟨hx, hb, hml, hown, hts⟩ (m_put_18 l D ct S ws ph xx mo mw ma mf m0 m1 mu mv u0 u1 iz mb th mn mpt mbg mwr mwk mlf men f_6 G cx p1 y_5 _ hT h_mu h_mv h_u0 h_u1 hph hy1 hR_13 hc) (cm_V 3 hts kc_X11_put ki_RX11 kl_RX11_234 kv_X11_put kx_X11_put kd_X11_put ⟨Nat.le_of_ble_eq_true rfl, Nat.le_of_ble_eq_true rfl⟩) (ty_preE (wr := []) (wc := ([(rf_MO mo mw ma mf m0 m1 mu mv u0 u1 iz th mb mn mpt mbg mwr mwk mlf men), (rf_RW ct 0 mw 958 f_6)] ++ ws)) (ci := 11) (q0 := 0) hP hK hD hS hA hX rfl rfl) rfl rfl hl.1 rfl (lv_room (Nat.le_of_ble_eq_true rfl)) dX11_fades_68 ⟨Nat.le_of_ble_eq_true rfl, Nat.le_of_ble_eq_true rfl⟩) hP hD hS hA (fun u H locs hw_9 hP hD hS => ?_)
    obtain ⟨ws_10, f1_11⟩ := u
    obtain ⟨hT, hp_12⟩ := hw_9
    have hp_12 : rf_d (f_6 8) f_6 f1_11 ∧ rf_R G cx f1_11 ∧ rf_sm f_6 f1_11 ∧ f1_11 = upd f_6 (244 + 54 * p1.toInt.toNat + 18) y_5 := hp_12
    obtain ⟨hd_13, hq_14⟩ := hp_12
    have hD_15 := rf_dt hD_13 hd_13
    have hR_16 := hq_14.1
    have hM_17 := rf_smt hM_13 hq_14.2.1
    have hP : va_P D vwCl ([(rf_MO mo mw ma mf m0 m1 mu mv u0 u1 iz th mb mn mpt mbg mwr mwk mlf men), (rf_RW ct 0 mw 958 f1_11)] ++ ws_10) H := hP
    have hD : va_D A ([(rf_MO mo mw ma mf m0 m1 mu mv u0 u1 iz th mb mn mpt mbg mwr mwk mlf men), (rf_RW ct 0 mw 958 f1_11)] ++ ws_10) := hD
    exact W.vret hx hb hr (fun t ht hW => ⟨⟨(ws_10, f1_11), rfl, ⟨hT, ⟨hD_15, hR_16, hM_17⟩⟩, by rw [ht]; exact hP, by rw [hAe]; exact hD⟩, hS.F ht⟩) hS.2.2 dX11_fades_71
  · refine lv_iload_n hx hb dX11_fades_23 rfl (lv_at hl 3 rfl) ?_
    refine lv_aload_n hx hb dX11_fades_24 rfl (lv_at hl 0 rfl) ?_
    refine va_get (v := .ref mw) (D := D) (ci := 11) (C := RX11) (T := TX11) (N := 19) hx hb hts in_X11 hown hK hP 0 rfl rfl 0 (by decide) (hts _ kl_RX11_9) (fun _ h9 => h9) rfl dX11_fades_25 ?_
    refine lv_iconst (v := 1) hx hb dX11_fades_28 (by decide) ?_
    refine va_iald hx hb hK hP 1 0 rfl rfl (cm_vin (by decide)) dX11_fades_29 ?_
    refine cm_cst (y := (f_6 1)) (by first | rfl | decide +kernel) ?_
    refine lv_isub hx hb dX11_fades_30 ?_
    refine lv_istore_n (lv' := [(3, .int (y_5 - (f_6 1))), (0, .ref mo), (1, .int p1), (2, .int p2)]) hx hb dX11_fades_31 rfl hl (by decide) rfl (fun ls hl => ?_)
    refine lv_aload_n hx hb dX11_fades_32 rfl (lv_at hl 1 rfl) ?_
    refine lv_iload_n hx hb dX11_fades_33 rfl (lv_at hl 2 rfl) ?_
    refine lv_bipush (v := 7) hx hb dX11_fades_34 (by decide) ?_
    refine lv_aload_n hx hb dX11_fades_36 rfl (lv_at hl 1 rfl) ?_
    refine lv_iload_n hx hb dX11_fades_37 rfl (lv_at hl 2 rfl) ?_
    refine lv_bipush (v := 12) hx hb dX11_fades_38 (by decide) ?_
    refine ty_ki (wr := []) (wc := ([(rf_MO mo mw ma mf m0 m1 mu mv u0 u1 iz th mb mn mpt mbg mwr mwk mlf men), (rf_RW ct 0 mw 958 f_6)] ++ ws)) (va_runV (As := [.int p1, .int 12]) (rest := [.int 7, .int p1, .ref mo]) ⟨hx, hb, hml, hown, hts⟩ (m_of_12 l D ct S ws ph xx mo mw ma mf m0 m1 mu mv u0 u1 iz mb th mn mpt mbg mwr mwk mlf men f_6 G cx p1 _ hT h_mu h_mv h_u0 h_u1 hph hy1 hR_13 hc) (cm_V 2 hts kc_X11_of ki_RX11 kl_RX11_209 kv_X11_of kx_X11_of kd_X11_of ⟨Nat.le_of_ble_eq_true rfl, Nat.le_of_ble_eq_true rfl⟩) (ty_preE (wr := []) (wc := ([(rf_MO mo mw ma mf m0 m1 mu mv u0 u1 iz th mb mn mpt mbg mwr mwk mlf men), (rf_RW ct 0 mw 958 f_6)] ++ ws)) (ci := 11) (q0 := 0) hP hK hD hS hA hX rfl rfl) rfl rfl hl.1 rfl (lv_room (Nat.le_of_ble_eq_true rfl)) dX11_fades_40 ⟨Nat.le_of_ble_eq_true rfl, Nat.le_of_ble_eq_true rfl⟩) hP hD hS hA (fun r_18 u H locs hw_19 hP hD hS => ?_)
    obtain ⟨ws_20, rfl⟩ : ∃ z, z = u := ⟨_, rfl⟩
    obtain ⟨hT, rfl⟩ := hw_19
    have hP : va_P D vwCl ([(rf_MO mo mw ma mf m0 m1 mu mv u0 u1 iz th mb mn mpt mbg mwr mwk mlf men), (rf_RW ct 0 mw 958 f_6)] ++ ws_20) H := hP
    have hD : va_D A ([(rf_MO mo mw ma mf m0 m1 mu mv u0 u1 iz th mb mn mpt mbg mwr mwk mlf men), (rf_RW ct 0 mw 958 f_6)] ++ ws_20) := hD
    refine lv_iconst (v := 2) hx hb dX11_fades_43 (by decide) ?_
    refine lv_idiv hx hb dX11_fades_44 (by decide) ?_
    refine lv_aload_n hx hb dX11_fades_45 rfl (lv_at hl 1 rfl) ?_
    refine lv_iload_n hx hb dX11_fades_46 rfl (lv_at hl 2 rfl) ?_
    refine lv_bipush (v := 7) hx hb dX11_fades_47 (by decide) ?_
    refine ty_ki (wr := []) (wc := ([(rf_MO mo mw ma mf m0 m1 mu mv u0 u1 iz th mb mn mpt mbg mwr mwk mlf men), (rf_RW ct 0 mw 958 f_6)] ++ ws_20)) (va_runV (As := [.int p1, .int 7]) (rest := [.int ((rf_of f_6 p1 12) / 2), .int 7, .int p1, .ref mo]) ⟨hx, hb, hml, hown, hts⟩ (m_of_7 l D ct S ws_20 ph xx mo mw ma mf m0 m1 mu mv u0 u1 iz mb th mn mpt mbg mwr mwk mlf men f_6 G cx p1 _ hT h_mu h_mv h_u0 h_u1 hph hy1 hR_13 hc) (cm_V 2 hts kc_X11_of ki_RX11 kl_RX11_209 kv_X11_of kx_X11_of kd_X11_of ⟨Nat.le_of_ble_eq_true rfl, Nat.le_of_ble_eq_true rfl⟩) (ty_preE (wr := []) (wc := ([(rf_MO mo mw ma mf m0 m1 mu mv u0 u1 iz th mb mn mpt mbg mwr mwk mlf men), (rf_RW ct 0 mw 958 f_6)] ++ ws_20)) (ci := 11) (q0 := 0) hP hK hD hS hA hX rfl rfl) rfl rfl hl.1 rfl (lv_room (Nat.le_of_ble_eq_true rfl)) dX11_fades_49 ⟨Nat.le_of_ble_eq_true rfl, Nat.le_of_ble_eq_true rfl⟩) hP hD hS hA (fun r_21 u H locs hw_22 hP hD hS => ?_)
    obtain ⟨ws_23, rfl⟩ : ∃ z, z = u := ⟨_, rfl⟩
    obtain ⟨hT, rfl⟩ := hw_22
    have hP : va_P D vwCl ([(rf_MO mo mw ma mf m0 m1 mu mv u0 u1 iz th mb mn mpt mbg mwr mwk mlf men), (rf_RW ct 0 mw 958 f_6)] ++ ws_23) H := hP
    have hD : va_D A ([(rf_MO mo mw ma mf m0 m1 mu mv u0 u1 iz th mb mn mpt mbg mwr mwk mlf men), (rf_RW ct 0 mw 958 f_6)] ++ ws_23) := hD
    refine lv_iconst (v := 1) hx hb dX11_fades_52 (by decide) ?_
    refine lv_isub hx hb dX11_fades_53 ?_
    refine va_mmax hx hb (hml.trans hl.1.symm) hown (hts _ kl_RX11_225) (hts _ jm_max_s) (hts _ ki_RJ9) (hts _ jm_max_c) (Nat.le_of_ble_eq_true rfl) (Nat.le_of_ble_eq_true rfl) (Nat.le_of_ble_eq_true rfl) (Nat.le_of_ble_eq_true rfl) dX11_fades_54 ?_
    refine ty_kv (wr := []) (wc := ([(rf_MO mo mw ma mf m0 m1 mu mv u0 u1 iz th mb mn mpt mbg mwr mwk mlf men), (rf_RW ct 0 mw 958 f_6)] ++ ws_23)) (va_runV (As := [.int p1, .int 7, .int (if ((rf_of f_6 p1 12) / 2) < ((rf_of f_6 p1 7) - 1) then ((rf_of f_6 p1 7) - 1) else ((rf_of f_6 p1 12) / 2))]) (rest := []) ⟨hx, hb, hml, hown, hts⟩ (m_put_7 l D ct S ws_23 ph xx mo mw ma mf m0 m1 mu mv u0 u1 iz mb th mn mpt mbg mwr mwk mlf men f_6 G cx p1 (if ((rf_of f_6 p1 12) / 2) < ((rf_of f_6 p1 7) - 1) then ((rf_of f_6 p1 7) - 1) else ((rf_of f_6 p1 12) / 2)) _ hT h_mu h_mv h_u0 h_u1 hph hy1 hR_13 hc (rf_fp hR_13 hc)) (cm_V 3 hts kc_X11_put ki_RX11 kl_RX11_234 kv_X11_put kx_X11_put kd_X11_put ⟨Nat.le_of_ble_eq_true rfl, Nat.le_of_ble_eq_true rfl⟩) (ty_preE (wr := []) (wc := ([(rf_MO mo mw ma mf m0 m1 mu mv u0 u1 iz th mb mn mpt mbg mwr mwk mlf men), (rf_RW ct 0 mw 958 f_6)] ++ ws_23)) (ci := 11) (q0 := 0) hP hK hD hS hA hX rfl rfl) rfl rfl hl.1 rfl (lv_room (Nat.le_of_ble_eq_true rfl)) dX11_fades_57 ⟨Nat.le_of_ble_eq_true rfl, Nat.le_of_ble_eq_true rfl⟩) hP hD hS hA (fun u H locs hw_25 hP hD hS => ?_)
    obtain ⟨ws_26, f1_27⟩ := u
    obtain ⟨hT, hp_28⟩ := hw_25
    have hp_28 : rf_d (f_6 8) f_6 f1_27 ∧ rf_R G cx f1_27 ∧ rf_sm f_6 f1_27 ∧ f1_27 = upd f_6 (244 + 54 * p1.toInt.toNat + 7) (if ((rf_of f_6 p1 12) / 2) < ((rf_of f_6 p1 7) - 1) then ((rf_of f_6 p1 7) - 1) else ((rf_of f_6 p1 12) / 2)) := hp_28
    obtain ⟨hd_29, hq_30⟩ := hp_28
    have hD_31 := rf_dt hD_13 hd_29
    have hR_32 := hq_30.1
    have hM_33 := rf_smt hM_13 hq_30.2.1
    have hP : va_P D vwCl ([(rf_MO mo mw ma mf m0 m1 mu mv u0 u1 iz th mb mn mpt mbg mwr mwk mlf men), (rf_RW ct 0 mw 958 f1_27)] ++ ws_26) H := hP
    have hD : va_D A ([(rf_MO mo mw ma mf m0 m1 mu mv u0 u1 iz th mb mn mpt mbg mwr mwk mlf men), (rf_RW ct 0 mw 958 f1_27)] ++ ws_26) := hD
    refine lv_goto (tgt := 13) hx hb dX11_fades_60 (by decide) ?_
    exact ih_13 _ _ _ _ (rf_fd hc_7 (rf_set hR_13 hc).1) ⟨ws_26, (y_5 - (f_6 1)), f1_27, rfl, hT, hP, hD, hS, (lv_sub hl [1, 2, 3, 0] rfl), hR_32, hM_33, hD_31⟩
theorem dX11_warms_0 : decode cX11_warms 0 = .ok (.aload_n 0, 1) := by decide +kernel
theorem dX11_warms_1 : decode cX11_warms 1 = .ok (.iload_n 1, 1) := by decide +kernel
theorem dX11_warms_2 : decode cX11_warms 2 = .ok (.bipush 17, 2) := by decide +kernel
theorem dX11_warms_4 : decode cX11_warms 4 = .ok (.invokevirtual 209, 3) := by decide +kernel
theorem dX11_warms_7 : decode cX11_warms 7 = .ok (.iload_n 2, 1) := by decide +kernel
theorem dX11_warms_8 : decode cX11_warms 8 = .ok (.iload_n 2, 1) := by decide +kernel
theorem dX11_warms_9 : decode cX11_warms 9 = .ok (.imul, 1) := by decide +kernel
theorem dX11_warms_10 : decode cX11_warms 10 = .ok (.sipush 1000, 3) := by decide +kernel
theorem dX11_warms_13 : decode cX11_warms 13 = .ok (.idiv, 1) := by decide +kernel
theorem dX11_warms_14 : decode cX11_warms 14 = .ok (.aload_n 0, 1) := by decide +kernel
theorem dX11_warms_15 : decode cX11_warms 15 = .ok (.iload_n 1, 1) := by decide +kernel
theorem dX11_warms_16 : decode cX11_warms 16 = .ok (.bipush 13, 2) := by decide +kernel
theorem dX11_warms_18 : decode cX11_warms 18 = .ok (.invokevirtual 209, 3) := by decide +kernel
theorem dX11_warms_21 : decode cX11_warms 21 = .ok (.imul, 1) := by decide +kernel
theorem dX11_warms_22 : decode cX11_warms 22 = .ok (.sipush 1000, 3) := by decide +kernel
theorem dX11_warms_25 : decode cX11_warms 25 = .ok (.idiv, 1) := by decide +kernel
theorem dX11_warms_26 : decode cX11_warms 26 = .ok (.iadd, 1) := by decide +kernel
theorem dX11_warms_27 : decode cX11_warms 27 = .ok (.aload_n 0, 1) := by decide +kernel
theorem dX11_warms_28 : decode cX11_warms 28 = .ok (.iload_n 1, 1) := by decide +kernel
theorem dX11_warms_29 : decode cX11_warms 29 = .ok (.bipush 9, 2) := by decide +kernel
theorem dX11_warms_31 : decode cX11_warms 31 = .ok (.invokevirtual 209, 3) := by decide +kernel
theorem dX11_warms_34 : decode cX11_warms 34 = .ok (.aload_n 0, 1) := by decide +kernel
theorem dX11_warms_35 : decode cX11_warms 35 = .ok (.getfield 9, 3) := by decide +kernel
theorem dX11_warms_38 : decode cX11_warms 38 = .ok (.bipush 7, 2) := by decide +kernel
theorem dX11_warms_40 : decode cX11_warms 40 = .ok (.iaload, 1) := by decide +kernel
theorem dX11_warms_41 : decode cX11_warms 41 = .ok (.isub, 1) := by decide +kernel
theorem dX11_warms_42 : decode cX11_warms 42 = .ok (.aload_n 0, 1) := by decide +kernel
theorem dX11_warms_43 : decode cX11_warms 43 = .ok (.getfield 9, 3) := by decide +kernel
theorem dX11_warms_46 : decode cX11_warms 46 = .ok (.iconst 3, 1) := by decide +kernel
theorem dX11_warms_47 : decode cX11_warms 47 = .ok (.iaload, 1) := by decide +kernel
theorem dX11_warms_48 : decode cX11_warms 48 = .ok (.imul, 1) := by decide +kernel
theorem dX11_warms_49 : decode cX11_warms 49 = .ok (.isub, 1) := by decide +kernel
theorem dX11_warms_50 : decode cX11_warms 50 = .ok (.istore_n 3, 1) := by decide +kernel
theorem dX11_warms_51 : decode cX11_warms 51 = .ok (.aload_n 0, 1) := by decide +kernel
theorem dX11_warms_52 : decode cX11_warms 52 = .ok (.iload_n 1, 1) := by decide +kernel
theorem dX11_warms_53 : decode cX11_warms 53 = .ok (.bipush 9, 2) := by decide +kernel
theorem dX11_warms_55 : decode cX11_warms 55 = .ok (.aload_n 0, 1) := by decide +kernel
theorem dX11_warms_56 : decode cX11_warms 56 = .ok (.iload_n 1, 1) := by decide +kernel
theorem dX11_warms_57 : decode cX11_warms 57 = .ok (.bipush 9, 2) := by decide +kernel
theorem dX11_warms_59 : decode cX11_warms 59 = .ok (.invokevirtual 209, 3) := by decide +kernel
theorem dX11_warms_62 : decode cX11_warms 62 = .ok (.iload_n 3, 1) := by decide +kernel
theorem dX11_warms_63 : decode cX11_warms 63 = .ok (.aload_n 0, 1) := by decide +kernel
theorem dX11_warms_64 : decode cX11_warms 64 = .ok (.getfield 9, 3) := by decide +kernel
theorem dX11_warms_67 : decode cX11_warms 67 = .ok (.iconst 2, 1) := by decide +kernel
theorem dX11_warms_68 : decode cX11_warms 68 = .ok (.iaload, 1) := by decide +kernel
theorem dX11_warms_69 : decode cX11_warms 69 = .ok (.idiv, 1) := by decide +kernel
theorem dX11_warms_70 : decode cX11_warms 70 = .ok (.iadd, 1) := by decide +kernel
theorem dX11_warms_71 : decode cX11_warms 71 = .ok (.invokevirtual 234, 3) := by decide +kernel
theorem dX11_warms_74 : decode cX11_warms 74 = .ok (.aload_n 0, 1) := by decide +kernel
theorem dX11_warms_75 : decode cX11_warms 75 = .ok (.iload_n 1, 1) := by decide +kernel
