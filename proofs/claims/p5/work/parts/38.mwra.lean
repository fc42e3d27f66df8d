set_option maxRecDepth 100000 in
set_option maxHeartbeats 4000000 in
theorem m_step_0 (l : Launch) (D : va_G) (ct : Nat → ClassId) (S : ty_S) (ws : va_W) (ph : va_W → Prop) (xx : Nat → Nat → Nat → Prop) (mo : Nat) (mw : Nat) (ma : Nat) (mf : Nat) (m0 : Nat) (m1 : Nat) (mu : Nat) (mv : Nat) (u0 : Nat) (u1 : Nat) (iz : Nat) (mb : Nat) (th : Int32) (mn : Int32) (mpt : Int32) (mbg : Int32) (mwr : Int32) (mwk : Int32) (mlf : Int32) (men : Int32) (f : Nat → Int32) (G : Nat → Int32) (cx : Int) (p1 : Int32) (sz : Nat) (hT : ty_V ct S ph ws) (hph : ty_C ph xx) (hy1 : ty_y1 xx) (hR : rf_R G cx f) (hc : 0 ≤ p1.toInt ∧ p1.toInt < (G 9).toInt) (ho : rf_on G f p1) : Met l yX11_step (ws_ yX11_step cX11_step 3 (some .int)) ({ frames := 1, cells := 0, slots := 0, locals := 23 } : Room) (va_Pc [.ref mo, .int p1, .int 0] (cmP D ct sz ([(rf_MO mo mw ma mf m0 m1 mu mv u0 u1 iz th mb mn mpt mbg mwr mwk mlf men), (rf_RW ct 0 mw 958 f)] ++ ws))) (va_Qi (fun (r : Int32) (u9 : va_W) => ty_V ct S ph u9 ∧ r = (rf_st3 f p1 0)) (cmB D ([(rf_MO mo mw ma mf m0 m1 mu mv u0 u1 iz th mb mn mpt mbg mwr mwk mlf men), (rf_RW ct 0 mw 958 f)] ++ ws) sz (fun (u9 : va_W) => ([(rf_MO mo mw ma mf m0 m1 mu mv u0 u1 iz th mb mn mpt mbg mwr mwk mlf men), (rf_RW ct 0 mw 958 f)] ++ u9))) (va_A ([(rf_MO mo mw ma mf m0 m1 mu mv u0 u1 iz th mb mn mpt mbg mwr mwk mlf men), (rf_RW ct 0 mw 958 f)] ++ ws) sz)) 0 0 (va_A ([(rf_MO mo mw ma mf m0 m1 mu mv u0 u1 iz th mb mn mpt mbg mwr mwk mlf men), (rf_RW ct 0 mw 958 f)] ++ ws) sz) := by
  refine Met.ofW (cc := cX11_step) (maxL := 3) (ret := (some .int)) (by decide) rfl ?_
  intro p e s m args below meth c s₁ B hml hv
  obtain ⟨rfl, hsz, hP, hK, hD0, hX⟩ := hv
  have hx := B.exec
  have hb := B.bytes
  have hr := B.returns
  have hts := ws_all (atoms_spec (ws := ws_ yX11_step cX11_step 3 (some .int)) B.pre)
  have hown : s.vm.findClass RX11 = some m.cls := findClass_of_methodNamed B.named
  have hlocks := B.notSynchronized
  subst hsz
  have hD := hD0.self (sz := s.heap.size)
  generalize hAe : va_A ([(rf_MO mo mw ma mf m0 m1 mu mv u0 u1 iz th mb mn mpt mbg mwr mwk mlf men), (rf_RW ct 0 mw 958 f)] ++ ws) s.heap.size = A at hD hX ⊢
  have hA : ∀ q : Nat, s.heap.size ≤ q → A q := fun q h => by rw [← hAe]; exact Or.inr h
  have hS : va_S A s.heap s.heap [] := va_S.rf
  have hl := lv_entry ([.ref mo, .int p1, .int 0]) (n := 3) (Nat.le_of_ble_eq_true rfl)
  rw [lg_entry_eq]
  generalize (lg_sl ([.ref mo, .int p1, .int 0]) ++ List.replicate (3 - (lg_sl ([.ref mo, .int p1, .int 0])).length) Slot.unset).toArray = ls at hl ⊢
  have hl : lv_has ls 3 [(0, .ref mo), (1, .int p1), (2, .int 0)] := hl
  refine lv_aload_n hx hb dX11_step_0 rfl (lv_at hl 0 rfl) ?_
  refine lv_aload_n hx hb dX11_step_1 rfl (lv_at hl 0 rfl) ?_
  refine lv_iload_n hx hb dX11_step_2 rfl (lv_at hl 1 rfl) ?_
  refine lv_iconst (v := 1) hx hb dX11_step_3 (by decide) ?_
  obtain ⟨hP, hD⟩ := ty_ipPD (E1 := []) (E2 := [(rf_MO mo mw ma mf m0 m1 mu mv u0 u1 iz th mb mn mpt mbg mwr mwk mlf men), (rf_RW ct 0 mw 958 f)]) hP hD rfl ty_mva
  refine ty_Ki hP hD hS hA (va_runV (As := [.int p1, .int 1]) (rest := [.ref mo]) ⟨hx, hb, hml, hown, hts⟩ (m_of_1 l D ct S ws ph xx mo mw ma mf m0 m1 mu mv u0 u1 iz mb th mn mpt mbg mwr mwk mlf men f G cx p1 _ hT hph hy1 hR hc) (cm_V 2 hts kc_X11_of ki_RX11 kl_RX11_209 kv_X11_of kx_X11_of kd_X11_of ⟨Nat.le_of_ble_eq_true rfl, Nat.le_of_ble_eq_true rfl⟩) (ty_preE (ci := 11) (q0 := 0) hP hK hD hS hA hX rfl rfl) rfl rfl hl.1 rfl (lv_room (Nat.le_of_ble_eq_true rfl)) dX11_step_4 ⟨Nat.le_of_ble_eq_true rfl, Nat.le_of_ble_eq_true rfl⟩) (fun r_1 u H locs hw_2 hP hD hS => ?_)
  obtain ⟨ws_3, rfl⟩ : ∃ z, z = u := ⟨_, rfl⟩
  obtain ⟨hT, rfl⟩ := hw_2
  obtain ⟨hP, hD⟩ := ty_shPD (w2 := ([(rf_MO mo mw ma mf m0 m1 mu mv u0 u1 iz th mb mn mpt mbg mwr mwk mlf men), (rf_RW ct 0 mw 958 f)] ++ ws_3)) hP hD rfl
  refine lv_aload_n hx hb dX11_step_7 rfl (lv_at hl 0 rfl) ?_
  refine lv_iload_n hx hb dX11_step_8 rfl (lv_at hl 1 rfl) ?_
  refine lv_iconst (v := 2) hx hb dX11_step_9 (by decide) ?_
  obtain ⟨hP, hD⟩ := ty_ipPD (E1 := []) (E2 := [(rf_MO mo mw ma mf m0 m1 mu mv u0 u1 iz th mb mn mpt mbg mwr mwk mlf men), (rf_RW ct 0 mw 958 f)]) hP hD rfl ty_mva
  refine ty_Ki hP hD hS hA (va_runV (As := [.int p1, .int 2]) (rest := [.int (rf_of f p1 1), .ref mo]) ⟨hx, hb, hml, hown, hts⟩ (m_of_2 l D ct S ws_3 ph xx mo mw ma mf m0 m1 mu mv u0 u1 iz mb th mn mpt mbg mwr mwk mlf men f G cx p1 _ hT hph hy1 hR hc) (cm_V 2 hts kc_X11_of ki_RX11 kl_RX11_209 kv_X11_of kx_X11_of kd_X11_of ⟨Nat.le_of_ble_eq_true rfl, Nat.le_of_ble_eq_true rfl⟩) (ty_preE (ci := 11) (q0 := 0) hP hK hD hS hA hX rfl rfl) rfl rfl hl.1 rfl (lv_room (Nat.le_of_ble_eq_true rfl)) dX11_step_10 ⟨Nat.le_of_ble_eq_true rfl, Nat.le_of_ble_eq_true rfl⟩) (fun r_4 u H locs hw_5 hP hD hS => ?_)
  obtain ⟨ws_6, rfl⟩ : ∃ z, z = u := ⟨_, rfl⟩
  obtain ⟨hT, rfl⟩ := hw_5
  obtain ⟨hP, hD⟩ := ty_shPD (w2 := ([(rf_MO mo mw ma mf m0 m1 mu mv u0 u1 iz th mb mn mpt mbg mwr mwk mlf men), (rf_RW ct 0 mw 958 f)] ++ ws_6)) hP hD rfl
  refine lv_iload_n hx hb dX11_step_13 rfl (lv_at hl 2 rfl) ?_
  obtain ⟨hP, hD⟩ := ty_ipPD (E1 := []) (E2 := [(rf_MO mo mw ma mf m0 m1 mu mv u0 u1 iz th mb mn mpt mbg mwr mwk mlf men), (rf_RW ct 0 mw 958 f)]) hP hD rfl ty_mva
  refine ty_Ki hP hD hS hA (va_runV (As := [.int (rf_of f p1 1), .int (rf_of f p1 2), .int 0]) (rest := []) ⟨hx, hb, hml, hown, hts⟩ (m_stepOf_0 l D ct S ws_6 ph xx mo mw ma mf m0 m1 mu mv u0 u1 iz mb th mn mpt mbg mwr mwk mlf men f G cx (rf_of f p1 1) (rf_of f p1 2) _ hT hph hy1 hR (rf_onp hR ho).1 (rf_onp hR ho).2) (cm_V 3 hts kc_X11_stepOf ki_RX11 kl_RX11_218 kv_X11_stepOf kx_X11_stepOf kd_X11_stepOf ⟨Nat.le_of_ble_eq_true rfl, Nat.le_of_ble_eq_true rfl⟩) (ty_preE (ci := 11) (q0 := 0) hP hK hD hS hA hX rfl rfl) rfl rfl hl.1 rfl (lv_room (Nat.le_of_ble_eq_true rfl)) dX11_step_14 ⟨Nat.le_of_ble_eq_true rfl, Nat.le_of_ble_eq_true rfl⟩) (fun r_7 u H locs hw_8 hP hD hS => ?_)
  obtain ⟨ws_9, rfl⟩ : ∃ z, z = u := ⟨_, rfl⟩
  obtain ⟨hT, rfl⟩ := hw_8
  obtain ⟨hP, hD⟩ := ty_shPD (w2 := ([(rf_MO mo mw ma mf m0 m1 mu mv u0 u1 iz th mb mn mpt mbg mwr mwk mlf men), (rf_RW ct 0 mw 958 f)] ++ ws_9)) hP hD rfl
  exact W.iret (v := (f (97 + 37 * (rf_of f p1 1).toInt.toNat + 3 * (rf_of f p1 2).toInt.toNat + 0))) hx hb hr (fun t ht hW => ⟨⟨(f (97 + 37 * (rf_of f p1 1).toInt.toNat + 3 * (rf_of f p1 2).toInt.toNat + 0)), ws_9, rfl, ⟨hT, rfl⟩, by rw [ht]; exact hP, by rw [hAe]; exact hD⟩, hS.F ht⟩) hS.2.2 dX11_step_17
set_option maxRecDepth 100000 in
set_option maxHeartbeats 4000000 in
theorem m_step_1 (l : Launch) (D : va_G) (ct : Nat → ClassId) (S : ty_S) (ws : va_W) (ph : va_W → Prop) (xx : Nat → Nat → Nat → Prop) (mo : Nat) (mw : Nat) (ma : Nat) (mf : Nat) (m0 : Nat) (m1 : Nat) (mu : Nat) (mv : Nat) (u0 : Nat) (u1 : Nat) (iz : Nat) (mb : Nat) (th : Int32) (mn : Int32) (mpt : Int32) (mbg : Int32) (mwr : Int32) (mwk : Int32) (mlf : Int32) (men : Int32) (f : Nat → Int32) (G : Nat → Int32) (cx : Int) (p1 : Int32) (sz : Nat) (hT : ty_V ct S ph ws) (hph : ty_C ph xx) (hy1 : ty_y1 xx) (hR : rf_R G cx f) (hc : 0 ≤ p1.toInt ∧ p1.toInt < (G 9).toInt) (ho : rf_on G f p1) : Met l yX11_step (ws_ yX11_step cX11_step 3 (some .int)) ({ frames := 1, cells := 0, slots := 0, locals := 23 } : Room) (va_Pc [.ref mo, .int p1, .int 1] (cmP D ct sz ([(rf_MO mo mw ma mf m0 m1 mu mv u0 u1 iz th mb mn mpt mbg mwr mwk mlf men), (rf_RW ct 0 mw 958 f)] ++ ws))) (va_Qi (fun (r : Int32) (u9 : va_W) => ty_V ct S ph u9 ∧ r = (rf_st3 f p1 1)) (cmB D ([(rf_MO mo mw ma mf m0 m1 mu mv u0 u1 iz th mb mn mpt mbg mwr mwk mlf men), (rf_RW ct 0 mw 958 f)] ++ ws) sz (fun (u9 : va_W) => ([(rf_MO mo mw ma mf m0 m1 mu mv u0 u1 iz th mb mn mpt mbg mwr mwk mlf men), (rf_RW ct 0 mw 958 f)] ++ u9))) (va_A ([(rf_MO mo mw ma mf m0 m1 mu mv u0 u1 iz th mb mn mpt mbg mwr mwk mlf men), (rf_RW ct 0 mw 958 f)] ++ ws) sz)) 0 0 (va_A ([(rf_MO mo mw ma mf m0 m1 mu mv u0 u1 iz th mb mn mpt mbg mwr mwk mlf men), (rf_RW ct 0 mw 958 f)] ++ ws) sz) := by
  refine Met.ofW (cc := cX11_step) (maxL := 3) (ret := (some .int)) (by decide) rfl ?_
  intro p e s m args below meth c s₁ B hml hv
  obtain ⟨rfl, hsz, hP, hK, hD0, hX⟩ := hv
  have hx := B.exec
  have hb := B.bytes
  have hr := B.returns
  have hts := ws_all (atoms_spec (ws := ws_ yX11_step cX11_step 3 (some .int)) B.pre)
  have hown : s.vm.findClass RX11 = some m.cls := findClass_of_methodNamed B.named
  have hlocks := B.notSynchronized
  subst hsz
  have hD := hD0.self (sz := s.heap.size)
  generalize hAe : va_A ([(rf_MO mo mw ma mf m0 m1 mu mv u0 u1 iz th mb mn mpt mbg mwr mwk mlf men), (rf_RW ct 0 mw 958 f)] ++ ws) s.heap.size = A at hD hX ⊢
  have hA : ∀ q : Nat, s.heap.size ≤ q → A q := fun q h => by rw [← hAe]; exact Or.inr h
  have hS : va_S A s.heap s.heap [] := va_S.rf
  have hl := lv_entry ([.ref mo, .int p1, .int 1]) (n := 3) (Nat.le_of_ble_eq_true rfl)
  rw [lg_entry_eq]
  generalize (lg_sl ([.ref mo, .int p1, .int 1]) ++ List.replicate (3 - (lg_sl ([.ref mo, .int p1, .int 1])).length) Slot.unset).toArray = ls at hl ⊢
  have hl : lv_has ls 3 [(0, .ref mo), (1, .int p1), (2, .int 1)] := hl
  refine lv_aload_n hx hb dX11_step_0 rfl (lv_at hl 0 rfl) ?_
  refine lv_aload_n hx hb dX11_step_1 rfl (lv_at hl 0 rfl) ?_
  refine lv_iload_n hx hb dX11_step_2 rfl (lv_at hl 1 rfl) ?_
  refine lv_iconst (v := 1) hx hb dX11_step_3 (by decide) ?_
  obtain ⟨hP, hD⟩ := ty_ipPD (E1 := []) (E2 := [(rf_MO mo mw ma mf m0 m1 mu mv u0 u1 iz th mb mn mpt mbg mwr mwk mlf men), (rf_RW ct 0 mw 958 f)]) hP hD rfl ty_mva
  refine ty_Ki hP hD hS hA (va_runV (As := [.int p1, .int 1]) (rest := [.ref mo]) ⟨hx, hb, hml, hown, hts⟩ (m_of_1 l D ct S ws ph xx mo mw ma mf m0 m1 mu mv u0 u1 iz mb th mn mpt mbg mwr mwk mlf men f G cx p1 _ hT hph hy1 hR hc) (cm_V 2 hts kc_X11_of ki_RX11 kl_RX11_209 kv_X11_of kx_X11_of kd_X11_of ⟨Nat.le_of_ble_eq_true rfl, Nat.le_of_ble_eq_true rfl⟩) (ty_preE (ci := 11) (q0 := 0) hP hK hD hS hA hX rfl rfl) rfl rfl hl.1 rfl (lv_room (Nat.le_of_ble_eq_true rfl)) dX11_step_4 ⟨Nat.le_of_ble_eq_true rfl, Nat.le_of_ble_eq_true rfl⟩) (fun r_1 u H locs hw_2 hP hD hS => ?_)
  obtain ⟨ws_3, rfl⟩ : ∃ z, z = u := ⟨_, rfl⟩
  obtain ⟨hT, rfl⟩ := hw_2
  obtain ⟨hP, hD⟩ := ty_shPD (w2 := ([(rf_MO mo mw ma mf m0 m1 mu mv u0 u1 iz th mb mn mpt mbg mwr mwk mlf men), (rf_RW ct 0 mw 958 f)] ++ ws_3)) hP hD rfl
  refine lv_aload_n hx hb dX11_step_7 rfl (lv_at hl 0 rfl) ?_
  refine lv_iload_n hx hb dX11_step_8 rfl (lv_at hl 1 rfl) ?_
  refine lv_iconst (v := 2) hx hb dX11_step_9 (by decide) ?_
  obtain ⟨hP, hD⟩ := ty_ipPD (E1 := []) (E2 := [(rf_MO mo mw ma mf m0 m1 mu mv u0 u1 iz th mb mn mpt mbg mwr mwk mlf men), (rf_RW ct 0 mw 958 f)]) hP hD rfl ty_mva
  refine ty_Ki hP hD hS hA (va_runV (As := [.int p1, .int 2]) (rest := [.int (rf_of f p1 1), .ref mo]) ⟨hx, hb, hml, hown, hts⟩ (m_of_2 l D ct S ws_3 ph xx mo mw ma mf m0 m1 mu mv u0 u1 iz mb th mn mpt mbg mwr mwk mlf men f G cx p1 _ hT hph hy1 hR hc) (cm_V 2 hts kc_X11_of ki_RX11 kl_RX11_209 kv_X11_of kx_X11_of kd_X11_of ⟨Nat.le_of_ble_eq_true rfl, Nat.le_of_ble_eq_true rfl⟩) (ty_preE (ci := 11) (q0 := 0) hP hK hD hS hA hX rfl rfl) rfl rfl hl.1 rfl (lv_room (Nat.le_of_ble_eq_true rfl)) dX11_step_10 ⟨Nat.le_of_ble_eq_true rfl, Nat.le_of_ble_eq_true rfl⟩) (fun r_4 u H locs hw_5 hP hD hS => ?_)
  obtain ⟨ws_6, rfl⟩ : ∃ z, z = u := ⟨_, rfl⟩
  obtain ⟨hT, rfl⟩ := hw_5
  obtain ⟨hP, hD⟩ := ty_shPD (w2 := ([(rf_MO mo mw ma mf m0 m1 mu mv u0 u1 iz th mb mn mpt mbg mwr mwk mlf men), (rf_RW ct 0 mw 958 f)] ++ ws_6)) hP hD rfl
  refine lv_iload_n hx hb dX11_step_13 rfl (lv_at hl 2 rfl) ?_
  obtain ⟨hP, hD⟩ := ty_ipPD (E1 := []) (E2 := [(rf_MO mo mw ma mf m0 m1 mu mv u0 u1 iz th mb mn mpt mbg mwr mwk mlf men), (rf_RW ct 0 mw 958 f)]) hP hD rfl ty_mva
  refine ty_Ki hP hD hS hA (va_runV (As := [.int (rf_of f p1 1), .int (rf_of f p1 2), .int 1]) (rest := []) ⟨hx, hb, hml, hown, hts⟩ (m_stepOf_1 l D ct S ws_6 ph xx mo mw ma mf m0 m1 mu mv u0 u1 iz mb th mn mpt mbg mwr mwk mlf men f G cx (rf_of f p1 1) (rf_of f p1 2) _ hT hph hy1 hR (rf_onp hR ho).1 (rf_onp hR ho).2) (cm_V 3 hts kc_X11_stepOf ki_RX11 kl_RX11_218 kv_X11_stepOf kx_X11_stepOf kd_X11_stepOf ⟨Nat.le_of_ble_eq_true rfl, Nat.le_of_ble_eq_true rfl⟩) (ty_preE (ci := 11) (q0 := 0) hP hK hD hS hA hX rfl rfl) rfl rfl hl.1 rfl (lv_room (Nat.le_of_ble_eq_true rfl)) dX11_step_14 ⟨Nat.le_of_ble_eq_true rfl, Nat.le_of_ble_eq_true rfl⟩) (fun r_7 u H locs hw_8 hP hD hS => ?_)
  obtain ⟨ws_9, rfl⟩ : ∃ z, z = u := ⟨_, rfl⟩
  obtain ⟨hT, rfl⟩ := hw_8
  obtain ⟨hP, hD⟩ := ty_shPD (w2 := ([(rf_MO mo mw ma mf m0 m1 mu mv u0 u1 iz th mb mn mpt mbg mwr mwk mlf men), (rf_RW ct 0 mw 958 f)] ++ ws_9)) hP hD rfl
  exact W.iret (v := (f (97 + 37 * (rf_of f p1 1).toInt.toNat + 3 * (rf_of f p1 2).toInt.toNat + 1))) hx hb hr (fun t ht hW => ⟨⟨(f (97 + 37 * (rf_of f p1 1).toInt.toNat + 3 * (rf_of f p1 2).toInt.toNat + 1)), ws_9, rfl, ⟨hT, rfl⟩, by rw [ht]; exact hP, by rw [hAe]; exact hD⟩, hS.F ht⟩) hS.2.2 dX11_step_17
set_option maxRecDepth 100000 in
set_option maxHeartbeats 4000000 in
theorem m_step_2 (l : Launch) (D : va_G) (ct : Nat → ClassId) (S : ty_S) (ws : va_W) (ph : va_W → Prop) (xx : Nat → Nat → Nat → Prop) (mo : Nat) (mw : Nat) (ma : Nat) (mf : Nat) (m0 : Nat) (m1 : Nat) (mu : Nat) (mv : Nat) (u0 : Nat) (u1 : Nat) (iz : Nat) (mb : Nat) (th : Int32) (mn : Int32) (mpt : Int32) (mbg : Int32) (mwr : Int32) (mwk : Int32) (mlf : Int32) (men : Int32) (f : Nat → Int32) (G : Nat → Int32) (cx : Int) (p1 : Int32) (sz : Nat) (hT : ty_V ct S ph ws) (hph : ty_C ph xx) (hy1 : ty_y1 xx) (hR : rf_R G cx f) (hc : 0 ≤ p1.toInt ∧ p1.toInt < (G 9).toInt) (ho : rf_on G f p1) : Met l yX11_step (ws_ yX11_step cX11_step 3 (some .int)) ({ frames := 1, cells := 0, slots := 0, locals := 23 } : Room) (va_Pc [.ref mo, .int p1, .int 2] (cmP D ct sz ([(rf_MO mo mw ma mf m0 m1 mu mv u0 u1 iz th mb mn mpt mbg mwr mwk mlf men), (rf_RW ct 0 mw 958 f)] ++ ws))) (va_Qi (fun (r : Int32) (u9 : va_W) => ty_V ct S ph u9 ∧ r = (rf_st3 f p1 2)) (cmB D ([(rf_MO mo mw ma mf m0 m1 mu mv u0 u1 iz th mb mn mpt mbg mwr mwk mlf men), (rf_RW ct 0 mw 958 f)] ++ ws) sz (fun (u9 : va_W) => ([(rf_MO mo mw ma mf m0 m1 mu mv u0 u1 iz th mb mn mpt mbg mwr mwk mlf men), (rf_RW ct 0 mw 958 f)] ++ u9))) (va_A ([(rf_MO mo mw ma mf m0 m1 mu mv u0 u1 iz th mb mn mpt mbg mwr mwk mlf men), (rf_RW ct 0 mw 958 f)] ++ ws) sz)) 0 0 (va_A ([(rf_MO mo mw ma mf m0 m1 mu mv u0 u1 iz th mb mn mpt mbg mwr mwk mlf men), (rf_RW ct 0 mw 958 f)] ++ ws) sz) := by
  refine Met.ofW (cc := cX11_step) (maxL := 3) (ret := (some .int)) (by decide) rfl ?_
  intro p e s m args below meth c s₁ B hml hv
  obtain ⟨rfl, hsz, hP, hK, hD0, hX⟩ := hv
  have hx := B.exec
  have hb := B.bytes
  have hr := B.returns
  have hts := ws_all (atoms_spec (ws := ws_ yX11_step cX11_step 3 (some .int)) B.pre)
  have hown : s.vm.findClass RX11 = some m.cls := findClass_of_methodNamed B.named
  have hlocks := B.notSynchronized
  subst hsz
  have hD := hD0.self (sz := s.heap.size)
  generalize hAe : va_A ([(rf_MO mo mw ma mf m0 m1 mu mv u0 u1 iz th mb mn mpt mbg mwr mwk mlf men), (rf_RW ct 0 mw 958 f)] ++ ws) s.heap.size = A at hD hX ⊢
  have hA : ∀ q : Nat, s.heap.size ≤ q → A q := fun q h => by rw [← hAe]; exact Or.inr h
  have hS : va_S A s.heap s.heap [] := va_S.rf
  have hl := lv_entry ([.ref mo, .int p1, .int 2]) (n := 3) (Nat.le_of_ble_eq_true rfl)
  rw [lg_entry_eq]
  generalize (lg_sl ([.ref mo, .int p1, .int 2]) ++ List.replicate (3 - (lg_sl ([.ref mo, .int p1, .int 2])).length) Slot.unset).toArray = ls at hl ⊢
  have hl : lv_has ls 3 [(0, .ref mo), (1, .int p1), (2, .int 2)] := hl
  refine lv_aload_n hx hb dX11_step_0 rfl (lv_at hl 0 rfl) ?_
  refine lv_aload_n hx hb dX11_step_1 rfl (lv_at hl 0 rfl) ?_
  refine lv_iload_n hx hb dX11_step_2 rfl (lv_at hl 1 rfl) ?_
  refine lv_iconst (v := 1) hx hb dX11_step_3 (by decide) ?_
  obtain ⟨hP, hD⟩ := ty_ipPD (E1 := []) (E2 := [(rf_MO mo mw ma mf m0 m1 mu mv u0 u1 iz th mb mn mpt mbg mwr mwk mlf men), (rf_RW ct 0 mw 958 f)]) hP hD rfl ty_mva
  refine ty_Ki hP hD hS hA (va_runV (As := [.int p1, .int 1]) (rest := [.ref mo]) ⟨hx, hb, hml, hown, hts⟩ (m_of_1 l D ct S ws ph xx mo mw ma mf m0 m1 mu mv u0 u1 iz mb th mn mpt mbg mwr mwk mlf men f G cx p1 _ hT hph hy1 hR hc) (cm_V 2 hts kc_X11_of ki_RX11 kl_RX11_209 kv_X11_of kx_X11_of kd_X11_of ⟨Nat.le_of_ble_eq_true rfl, Nat.le_of_ble_eq_true rfl⟩) (ty_preE (ci := 11) (q0 := 0) hP hK hD hS hA hX rfl rfl) rfl rfl hl.1 rfl (lv_room (Nat.le_of_ble_eq_true rfl)) dX11_step_4 ⟨Nat.le_of_ble_eq_true rfl, Nat.le_of_ble_eq_true rfl⟩) (fun r_1 u H locs hw_2 hP hD hS => ?_)
  obtain ⟨ws_3, rfl⟩ : ∃ z, z = u := ⟨_, rfl⟩
  obtain ⟨hT, rfl⟩ := hw_2
  obtain ⟨hP, hD⟩ := ty_shPD (w2 := ([(rf_MO mo mw ma mf m0 m1 mu mv u0 u1 iz th mb mn mpt mbg mwr mwk mlf men), (rf_RW ct 0 mw 958 f)] ++ ws_3)) hP hD rfl
  refine lv_aload_n hx hb dX11_step_7 rfl (lv_at hl 0 rfl) ?_
  refine lv_iload_n hx hb dX11_step_8 rfl (lv_at hl 1 rfl) ?_
  refine lv_iconst (v := 2) hx hb dX11_step_9 (by decide) ?_
  obtain ⟨hP, hD⟩ := ty_ipPD (E1 := []) (E2 := [(rf_MO mo mw ma mf m0 m1 mu mv u0 u1 iz th mb mn mpt mbg mwr mwk mlf men), (rf_RW ct 0 mw 958 f)]) hP hD rfl ty_mva
  refine ty_Ki hP hD hS hA (va_runV (As := [.int p1, .int 2]) (rest := [.int (rf_of f p1 1), .ref mo]) ⟨hx, hb, hml, hown, hts⟩ (m_of_2 l D ct S ws_3 ph xx mo mw ma mf m0 m1 mu mv u0 u1 iz mb th mn mpt mbg mwr mwk mlf men f G cx p1 _ hT hph hy1 hR hc) (cm_V 2 hts kc_X11_of ki_RX11 kl_RX11_209 kv_X11_of kx_X11_of kd_X11_of ⟨Nat.le_of_ble_eq_true rfl, Nat.le_of_ble_eq_true rfl⟩) (ty_preE (ci := 11) (q0 := 0) hP hK hD hS hA hX rfl rfl) rfl rfl hl.1 rfl (lv_room (Nat.le_of_ble_eq_true rfl)) dX11_step_10 ⟨Nat.le_of_ble_eq_true rfl, Nat.le_of_ble_eq_true rfl⟩) (fun r_4 u H locs hw_5 hP hD hS => ?_)
  obtain ⟨ws_6, rfl⟩ : ∃ z, z = u := ⟨_, rfl⟩
  obtain ⟨hT, rfl⟩ := hw_5
  obtain ⟨hP, hD⟩ := ty_shPD (w2 := ([(rf_MO mo mw ma mf m0 m1 mu mv u0 u1 iz th mb mn mpt mbg mwr mwk mlf men), (rf_RW ct 0 mw 958 f)] ++ ws_6)) hP hD rfl
  refine lv_iload_n hx hb dX11_step_13 rfl (lv_at hl 2 rfl) ?_
  obtain ⟨hP, hD⟩ := ty_ipPD (E1 := []) (E2 := [(rf_MO mo mw ma mf m0 m1 mu mv u0 u1 iz th mb mn mpt mbg mwr mwk mlf men), (rf_RW ct 0 mw 958 f)]) hP hD rfl ty_mva
  refine ty_Ki hP hD hS hA (va_runV (As := [.int (rf_of f p1 1), .int (rf_of f p1 2), .int 2]) (rest := []) ⟨hx, hb, hml, hown, hts⟩ (m_stepOf_2 l D ct S ws_6 ph xx mo mw ma mf m0 m1 mu mv u0 u1 iz mb th mn mpt mbg mwr mwk mlf men f G cx (rf_of f p1 1) (rf_of f p1 2) _ hT hph hy1 hR (rf_onp hR ho).1 (rf_onp hR ho).2) (cm_V 3 hts kc_X11_stepOf ki_RX11 kl_RX11_218 kv_X11_stepOf kx_X11_stepOf kd_X11_stepOf ⟨Nat.le_of_ble_eq_true rfl, Nat.le_of_ble_eq_true rfl⟩) (ty_preE (ci := 11) (q0 := 0) hP hK hD hS hA hX rfl rfl) rfl rfl hl.1 rfl (lv_room (Nat.le_of_ble_eq_true rfl)) dX11_step_14 ⟨Nat.le_of_ble_eq_true rfl, Nat.le_of_ble_eq_true rfl⟩) (fun r_7 u H locs hw_8 hP hD hS => ?_)
  obtain ⟨ws_9, rfl⟩ : ∃ z, z = u := ⟨_, rfl⟩
  obtain ⟨hT, rfl⟩ := hw_8
  obtain ⟨hP, hD⟩ := ty_shPD (w2 := ([(rf_MO mo mw ma mf m0 m1 mu mv u0 u1 iz th mb mn mpt mbg mwr mwk mlf men), (rf_RW ct 0 mw 958 f)] ++ ws_9)) hP hD rfl
  exact W.iret (v := (f (97 + 37 * (rf_of f p1 1).toInt.toNat + 3 * (rf_of f p1 2).toInt.toNat + 2))) hx hb hr (fun t ht hW => ⟨⟨(f (97 + 37 * (rf_of f p1 1).toInt.toNat + 3 * (rf_of f p1 2).toInt.toNat + 2)), ws_9, rfl, ⟨hT, rfl⟩, by rw [ht]; exact hP, by rw [hAe]; exact hD⟩, hS.F ht⟩) hS.2.2 dX11_step_17
def q_X11_restAt (f : Nat → Int32) (p1 : Int32) (p2 : Int32) (r : Int32) : Prop := (∃ (k_9 : Int32), k_9 = (if (((f (20 + 19 * (rf_of f p1 11).toInt.toNat + 7)) - 1) - 1).toInt64 < ((p2.toInt64 * (((f (20 + 19 * (rf_of f p1 11).toInt.toNat + 7)) - 1).toInt64)) / ((rf_of f p1 7).toInt64)) then (((f (20 + 19 * (rf_of f p1 11).toInt.toNat + 7)) - 1) - 1).toInt64 else ((p2.toInt64 * (((f (20 + 19 * (rf_of f p1 11).toInt.toNat + 7)) - 1).toInt64)) / ((rf_of f p1 7).toInt64))).toInt32 ∧ (∃ (r_10 : Int32), (q_X11_volts f (rf_of f p1 11) (k_9 + 1) r_10) ∧ (∃ (r_16 : Int32), (q_X11_volts f (rf_of f p1 11) k_9 r_16) ∧ (∃ (r_22 : Int32), (q_X11_volts f (rf_of f p1 11) k_9 r_22) ∧ (r = (r_22 + (((((r_10 - r_16).toInt64) * ((p2.toInt64 * (((f (20 + 19 * (rf_of f p1 11).toInt.toNat + 7)) - 1).toInt64)) - (k_9.toInt64 * ((rf_of f p1 7).toInt64)))) / ((rf_of f p1 7).toInt64)).toInt32)))))))
set_option maxRecDepth 100000 in
set_option maxHeartbeats 4000000 in
theorem m_X11_restAt (l : Launch) (D : va_G) (ct : Nat → ClassId) (S : ty_S) (ws : va_W) (ph : va_W → Prop) (xx : Nat → Nat → Nat → Prop) (mo : Nat) (mw : Nat) (ma : Nat) (mf : Nat) (m0 : Nat) (m1 : Nat) (mu : Nat) (mv : Nat) (u0 : Nat) (u1 : Nat) (iz : Nat) (mb : Nat) (th : Int32) (mn : Int32) (mpt : Int32) (mbg : Int32) (mwr : Int32) (mwk : Int32) (mlf : Int32) (men : Int32) (f : Nat → Int32) (G : Nat → Int32) (cx : Int) (p1 : Int32) (p2 : Int32) (sz : Nat) (hT : ty_V ct S ph ws) (hph : ty_C ph xx) (hy1 : ty_y1 xx) (hR : rf_R G cx f) (hc : 0 ≤ p1.toInt ∧ p1.toInt < (G 9).toInt) (hq : 0 ≤ p2.toInt) : Met l yX11_restAt (ws_ yX11_restAt cX11_restAt 12 (some .int)) ({ frames := 1, cells := 0, slots := 0, locals := 22 } : Room) (va_Pc [.ref mo, .int p1, .int p2] (cmP D ct sz ([(rf_MO mo mw ma mf m0 m1 mu mv u0 u1 iz th mb mn mpt mbg mwr mwk mlf men), (rf_RW ct 0 mw 958 f)] ++ ws))) (va_Qi (fun (r : Int32) (u9 : va_W) => ty_V ct S ph u9 ∧ (q_X11_restAt f p1 p2 r)) (cmB D ([(rf_MO mo mw ma mf m0 m1 mu mv u0 u1 iz th mb mn mpt mbg mwr mwk mlf men), (rf_RW ct 0 mw 958 f)] ++ ws) sz (fun (u9 : va_W) => ([(rf_MO mo mw ma mf m0 m1 mu mv u0 u1 iz th mb mn mpt mbg mwr mwk mlf men), (rf_RW ct 0 mw 958 f)] ++ u9))) (va_A ([(rf_MO mo mw ma mf m0 m1 mu mv u0 u1 iz th mb mn mpt mbg mwr mwk mlf men), (rf_RW ct 0 mw 958 f)] ++ ws) sz)) 0 0 (va_A ([(rf_MO mo mw ma mf m0 m1 mu mv u0 u1 iz th mb mn mpt mbg mwr mwk mlf men), (rf_RW ct 0 mw 958 f)] ++ ws) sz) := by
  refine Met.ofW (cc := cX11_restAt) (maxL := 12) (ret := (some .int)) (by decide) rfl ?_
  intro p e s m args below meth c s₁ B hml hv
  obtain ⟨rfl, hsz, hP, hK, hD0, hX⟩ := hv
  have hx := B.exec
  have hb := B.bytes
  have hr := B.returns
  have hts := ws_all (atoms_spec (ws := ws_ yX11_restAt cX11_restAt 12 (some .int)) B.pre)
  have hown : s.vm.findClass RX11 = some m.cls := findClass_of_methodNamed B.named
  have hlocks := B.notSynchronized
  subst hsz
  have hD := hD0.self (sz := s.heap.size)
  generalize hAe : va_A ([(rf_MO mo mw ma mf m0 m1 mu mv u0 u1 iz th mb mn mpt mbg mwr mwk mlf men), (rf_RW ct 0 mw 958 f)] ++ ws) s.heap.size = A at hD hX ⊢
  have hA : ∀ q : Nat, s.heap.size ≤ q → A q := fun q h => by rw [← hAe]; exact Or.inr h
  have hS : va_S A s.heap s.heap [] := va_S.rf
  have hl := lv_entry ([.ref mo, .int p1, .int p2]) (n := 12) (Nat.le_of_ble_eq_true rfl)
  rw [lg_entry_eq]
  generalize (lg_sl ([.ref mo, .int p1, .int p2]) ++ List.replicate (12 - (lg_sl ([.ref mo, .int p1, .int p2])).length) Slot.unset).toArray = ls at hl ⊢
  have hl : lv_has ls 12 [(0, .ref mo), (1, .int p1), (2, .int p2)] := hl
  refine lv_aload_n hx hb dX11_restAt_0 rfl (lv_at hl 0 rfl) ?_
  refine lv_iload_n hx hb dX11_restAt_1 rfl (lv_at hl 1 rfl) ?_
  refine lv_bipush (v := 11) hx hb dX11_restAt_2 (by decide) ?_
  obtain ⟨hP, hD⟩ := ty_ipPD (E1 := []) (E2 := [(rf_MO mo mw ma mf m0 m1 mu mv u0 u1 iz th mb mn mpt mbg mwr mwk mlf men), (rf_RW ct 0 mw 958 f)]) hP hD rfl ty_mva
  refine ty_Ki hP hD hS hA (va_runV (As := [.int p1, .int 11]) (rest := []) ⟨hx, hb, hml, hown, hts⟩ (m_of_11 l D ct S ws ph xx mo mw ma mf m0 m1 mu mv u0 u1 iz mb th mn mpt mbg mwr mwk mlf men f G cx p1 _ hT hph hy1 hR hc) (cm_V 2 hts kc_X11_of ki_RX11 kl_RX11_209 kv_X11_of kx_X11_of kd_X11_of ⟨Nat.le_of_ble_eq_true rfl, Nat.le_of_ble_eq_true rfl⟩) (ty_preE (ci := 11) (q0 := 0) hP hK hD hS hA hX rfl rfl) rfl rfl hl.1 rfl (lv_room (Nat.le_of_ble_eq_true rfl)) dX11_restAt_4 ⟨Nat.le_of_ble_eq_true rfl, Nat.le_of_ble_eq_true rfl⟩) (fun r_1 u H locs hw_2 hP hD hS => ?_)
  obtain ⟨ws_3, rfl⟩ : ∃ z, z = u := ⟨_, rfl⟩
  obtain ⟨hT, rfl⟩ := hw_2
  obtain ⟨hP, hD⟩ := ty_shPD (w2 := ([(rf_MO mo mw ma mf m0 m1 mu mv u0 u1 iz th mb mn mpt mbg mwr mwk mlf men), (rf_RW ct 0 mw 958 f)] ++ ws_3)) hP hD rfl
  refine lv_istore_n (lv' := [(3, .int (rf_of f p1 11)), (0, .ref mo), (1, .int p1), (2, .int p2)]) hx hb dX11_restAt_7 rfl hl (by decide) rfl (fun ls hl => ?_)
  refine lv_aload_n hx hb dX11_restAt_8 rfl (lv_at hl 1 rfl) ?_
  refine lv_iload_n hx hb dX11_restAt_9 rfl (lv_at hl 0 rfl) ?_
  obtain ⟨hP, hD⟩ := ty_ipPD (E1 := []) (E2 := [(rf_MO mo mw ma mf m0 m1 mu mv u0 u1 iz th mb mn mpt mbg mwr mwk mlf men), (rf_RW ct 0 mw 958 f)]) hP hD rfl ty_mva
  refine ty_Ki hP hD hS hA (va_runV (As := [.int (rf_of f p1 11)]) (rest := []) ⟨hx, hb, hml, hown, hts⟩ (m_X11_voltsMany l D ct S ws_3 ph xx mo mw ma mf m0 m1 mu mv u0 u1 iz mb th mn mpt mbg mwr mwk mlf men f G cx (rf_of f p1 11) _ hT hph hy1 hR (rf_stat hR hc).1.1) (cm_V 1 hts kc_X11_voltsMany ki_RX11 kl_RX11_212 kv_X11_voltsMany kx_X11_voltsMany kd_X11_voltsMany ⟨Nat.le_of_ble_eq_true rfl, Nat.le_of_ble_eq_true rfl⟩) (ty_preE (ci := 11) (q0 := 0) hP hK hD hS hA hX rfl rfl) rfl rfl hl.1 rfl (lv_room (Nat.le_of_ble_eq_true rfl)) dX11_restAt_10 ⟨Nat.le_of_ble_eq_true rfl, Nat.le_of_ble_eq_true rfl⟩) (fun r_4 u H locs hw_5 hP hD hS => ?_)
  obtain ⟨ws_6, rfl⟩ : ∃ z, z = u := ⟨_, rfl⟩
  obtain ⟨hT, rfl⟩ := hw_5
  obtain ⟨hP, hD⟩ := ty_shPD (w2 := ([(rf_MO mo mw ma mf m0 m1 mu mv u0 u1 iz th mb mn mpt mbg mwr mwk mlf men), (rf_RW ct 0 mw 958 f)] ++ ws_6)) hP hD rfl
  refine lv_iconst (v := 1) hx hb dX11_restAt_13 (by decide) ?_
  refine lv_isub hx hb dX11_restAt_14 ?_
  refine lv_istore (lv' := [(4, .int ((f (20 + 19 * (rf_of f p1 11).toInt.toNat + 7)) - 1)), (3, .int (rf_of f p1 11)), (0, .ref mo), (1, .int p1), (2, .int p2)]) hx hb dX11_restAt_15 hl (by decide) rfl (fun ls hl => ?_)
  refine lv_aload_n hx hb dX11_restAt_17 rfl (lv_at hl 2 rfl) ?_
  refine lv_iload_n hx hb dX11_restAt_18 rfl (lv_at hl 3 rfl) ?_
  refine lv_bipush (v := 7) hx hb dX11_restAt_19 (by decide) ?_
  obtain ⟨hP, hD⟩ := ty_ipPD (E1 := []) (E2 := [(rf_MO mo mw ma mf m0 m1 mu mv u0 u1 iz th mb mn mpt mbg mwr mwk mlf men), (rf_RW ct 0 mw 958 f)]) hP hD rfl ty_mva
  refine ty_Ki hP hD hS hA (va_runV (As := [.int p1, .int 7]) (rest := []) ⟨hx, hb, hml, hown, hts⟩ (m_of_7 l D ct S ws_6 ph xx mo mw ma mf m0 m1 mu mv u0 u1 iz mb th mn mpt mbg mwr mwk mlf men f G cx p1 _ hT hph hy1 hR hc) (cm_V 2 hts kc_X11_of ki_RX11 kl_RX11_209 kv_X11_of kx_X11_of kd_X11_of ⟨Nat.le_of_ble_eq_true rfl, Nat.le_of_ble_eq_true rfl⟩) (ty_preE (ci := 11) (q0 := 0) hP hK hD hS hA hX rfl rfl) rfl rfl hl.1 rfl (lv_room (Nat.le_of_ble_eq_true rfl)) dX11_restAt_21 ⟨Nat.le_of_ble_eq_true rfl, Nat.le_of_ble_eq_true rfl⟩) (fun r_7 u H locs hw_8 hP hD hS => ?_)
  obtain ⟨ws_9, rfl⟩ : ∃ z, z = u := ⟨_, rfl⟩
  obtain ⟨hT, rfl⟩ := hw_8
  obtain ⟨hP, hD⟩ := ty_shPD (w2 := ([(rf_MO mo mw ma mf m0 m1 mu mv u0 u1 iz th mb mn mpt mbg mwr mwk mlf men), (rf_RW ct 0 mw 958 f)] ++ ws_9)) hP hD rfl
  refine lv_i2l hx hb dX11_restAt_24 rfl ?_
  refine lv_lstore (lv' := [(5, .long ((rf_of f p1 7).toInt64)), (4, .int ((f (20 + 19 * (rf_of f p1 11).toInt.toNat + 7)) - 1)), (3, .int (rf_of f p1 11)), (0, .ref mo), (1, .int p1), (2, .int p2)]) hx hb dX11_restAt_25 hl (by decide) rfl (fun ls hl => ?_)
  refine lv_iload_n hx hb dX11_restAt_27 rfl (lv_at hl 5 rfl) ?_
  refine lv_i2l hx hb dX11_restAt_28 rfl ?_
  refine lv_iload hx hb dX11_restAt_29 (lv_at hl 1 rfl) ?_
  refine lv_i2l hx hb dX11_restAt_31 rfl ?_
  refine lv_lmul hx hb dX11_restAt_32 ?_
  refine lv_lstore (lv' := [(7, .long (p2.toInt64 * (((f (20 + 19 * (rf_of f p1 11).toInt.toNat + 7)) - 1).toInt64))), (5, .long ((rf_of f p1 7).toInt64)), (4, .int ((f (20 + 19 * (rf_of f p1 11).toInt.toNat + 7)) - 1)), (3, .int (rf_of f p1 11)), (0, .ref mo), (1, .int p1), (2, .int p2)]) hx hb dX11_restAt_33 hl (by decide) rfl (fun ls hl => ?_)
  refine lv_lload hx hb dX11_restAt_35 (lv_at hl 0 rfl) ?_
  refine lv_lload hx hb dX11_restAt_37 (lv_at hl 1 rfl) ?_
  refine lv_ldiv hx hb dX11_restAt_39 (rf_nzl (by have := rf_full hR hc; omega)) ?_
  refine lv_iload hx hb dX11_restAt_40 (lv_at hl 2 rfl) ?_
  refine lv_iconst (v := 1) hx hb dX11_restAt_42 (by decide) ?_
  refine lv_isub hx hb dX11_restAt_43 ?_
  refine lv_i2l hx hb dX11_restAt_44 rfl ?_
  refine va_mmin_long hx hb (hml.trans hl.1.symm) hown (hts _ kl_RX11_119) (hts _ jm_min_long_s) (hts _ ki_RJ9) (hts _ jm_min_long_c) (Nat.le_of_ble_eq_true rfl) (Nat.le_of_ble_eq_true rfl) (Nat.le_of_ble_eq_true rfl) (Nat.le_of_ble_eq_true rfl) dX11_restAt_45 ?_
  refine lv_l2i hx hb dX11_restAt_48 rfl ?_
  refine lv_topi (fun k_9 hk_9 => ?_)
  have hk_8 := rf_rk hq (rf_stat hR hc).1.2 (rf_full hR hc) hk_9
  refine lv_istore (lv' := [(9, .int k_9), (7, .long (p2.toInt64 * (((f (20 + 19 * (rf_of f p1 11).toInt.toNat + 7)) - 1).toInt64))), (5, .long ((rf_of f p1 7).toInt64)), (4, .int ((f (20 + 19 * (rf_of f p1 11).toInt.toNat + 7)) - 1)), (3, .int (rf_of f p1 11)), (0, .ref mo), (1, .int p1), (2, .int p2)]) hx hb dX11_restAt_49 hl (by decide) rfl (fun ls hl => ?_)
  refine lv_aload_n hx hb dX11_restAt_51 rfl (lv_at hl 5 rfl) ?_
  refine lv_iload_n hx hb dX11_restAt_52 rfl (lv_at hl 4 rfl) ?_
  refine lv_iload hx hb dX11_restAt_53 (lv_at hl 0 rfl) ?_
  refine lv_iconst (v := 1) hx hb dX11_restAt_55 (by decide) ?_
  refine lv_iadd hx hb dX11_restAt_56 ?_
  obtain ⟨hP, hD⟩ := ty_ipPD (E1 := []) (E2 := [(rf_MO mo mw ma mf m0 m1 mu mv u0 u1 iz th mb mn mpt mbg mwr mwk mlf men), (rf_RW ct 0 mw 958 f)]) hP hD rfl ty_mva
  refine ty_Ki hP hD hS hA (va_runV (As := [.int (rf_of f p1 11), .int (k_9 + 1)]) (rest := []) ⟨hx, hb, hml, hown, hts⟩ (m_X11_volts l D ct S ws_9 ph xx mo mw ma mf m0 m1 mu mv u0 u1 iz mb th mn mpt mbg mwr mwk mlf men f G cx (rf_of f p1 11) (k_9 + 1) _ hT hph hy1 hR (rf_stat hR hc).1.1 (rf_rk1 hk_8)) (cm_V 2 hts kc_X11_volts ki_RX11 kl_RX11_215 kv_X11_volts kx_X11_volts kd_X11_volts ⟨Nat.le_of_ble_eq_true rfl, Nat.le_of_ble_eq_true rfl⟩) (ty_preE (ci := 11) (q0 := 0) hP hK hD hS hA hX rfl rfl) rfl rfl hl.1 rfl (lv_room (Nat.le_of_ble_eq_true rfl)) dX11_restAt_57 ⟨Nat.le_of_ble_eq_true rfl, Nat.le_of_ble_eq_true rfl⟩) (fun r_10 u H locs hw_11 hP hD hS => ?_)
  obtain ⟨ws_12, rfl⟩ : ∃ z, z = u := ⟨_, rfl⟩
  obtain ⟨hT, hp_13⟩ := hw_11
  have hp_13 : (q_X11_volts f (rf_of f p1 11) (k_9 + 1) r_10) := hp_13
  obtain ⟨hP, hD⟩ := ty_shPD (w2 := ([(rf_MO mo mw ma mf m0 m1 mu mv u0 u1 iz th mb mn mpt mbg mwr mwk mlf men), (rf_RW ct 0 mw 958 f)] ++ ws_12)) hP hD rfl
  refine lv_aload_n hx hb dX11_restAt_60 rfl (lv_at hl 5 rfl) ?_
  refine lv_iload_n hx hb dX11_restAt_61 rfl (lv_at hl 4 rfl) ?_
  refine lv_iload hx hb dX11_restAt_62 (lv_at hl 0 rfl) ?_
  obtain ⟨hP, hD⟩ := ty_ipPD (E1 := []) (E2 := [(rf_MO mo mw ma mf m0 m1 mu mv u0 u1 iz th mb mn mpt mbg mwr mwk mlf men), (rf_RW ct 0 mw 958 f)]) hP hD rfl ty_mva
  refine ty_Ki hP hD hS hA (va_runV (As := [.int (rf_of f p1 11), .int k_9]) (rest := [.int r_10]) ⟨hx, hb, hml, hown, hts⟩ (m_X11_volts l D ct S ws_12 ph xx mo mw ma mf m0 m1 mu mv u0 u1 iz mb th mn mpt mbg mwr mwk mlf men f G cx (rf_of f p1 11) k_9 _ hT hph hy1 hR (rf_stat hR hc).1.1 (rf_rk0 hk_8)) (cm_V 2 hts kc_X11_volts ki_RX11 kl_RX11_215 kv_X11_volts kx_X11_volts kd_X11_volts ⟨Nat.le_of_ble_eq_true rfl, Nat.le_of_ble_eq_true rfl⟩) (ty_preE (ci := 11) (q0 := 0) hP hK hD hS hA hX rfl rfl) rfl rfl hl.1 rfl (lv_room (Nat.le_of_ble_eq_true rfl)) dX11_restAt_64 ⟨Nat.le_of_ble_eq_true rfl, Nat.le_of_ble_eq_true rfl⟩) (fun r_16 u H locs hw_17 hP hD hS => ?_)
  obtain ⟨ws_18, rfl⟩ : ∃ z, z = u := ⟨_, rfl⟩
  obtain ⟨hT, hp_19⟩ := hw_17
  have hp_19 : (q_X11_volts f (rf_of f p1 11) k_9 r_16) := hp_19
  obtain ⟨hP, hD⟩ := ty_shPD (w2 := ([(rf_MO mo mw ma mf m0 m1 mu mv u0 u1 iz th mb mn mpt mbg mwr mwk mlf men), (rf_RW ct 0 mw 958 f)] ++ ws_18)) hP hD rfl
  refine lv_isub hx hb dX11_restAt_67 ?_
  refine lv_i2l hx hb dX11_restAt_68 rfl ?_
  refine lv_lstore (lv' := [(10, .long ((r_10 - r_16).toInt64)), (9, .int k_9), (7, .long (p2.toInt64 * (((f (20 + 19 * (rf_of f p1 11).toInt.toNat + 7)) - 1).toInt64))), (5, .long ((rf_of f p1 7).toInt64)), (4, .int ((f (20 + 19 * (rf_of f p1 11).toInt.toNat + 7)) - 1)), (3, .int (rf_of f p1 11)), (0, .ref mo), (1, .int p1), (2, .int p2)]) hx hb dX11_restAt_69 hl (by decide) rfl (fun ls hl => ?_)
  refine lv_aload_n hx hb dX11_restAt_71 rfl (lv_at hl 6 rfl) ?_
  refine lv_iload_n hx hb dX11_restAt_72 rfl (lv_at hl 5 rfl) ?_
  refine lv_iload hx hb dX11_restAt_73 (lv_at hl 1 rfl) ?_
  obtain ⟨hP, hD⟩ := ty_ipPD (E1 := []) (E2 := [(rf_MO mo mw ma mf m0 m1 mu mv u0 u1 iz th mb mn mpt mbg mwr mwk mlf men), (rf_RW ct 0 mw 958 f)]) hP hD rfl ty_mva
  refine ty_Ki hP hD hS hA (va_runV (As := [.int (rf_of f p1 11), .int k_9]) (rest := []) ⟨hx, hb, hml, hown, hts⟩ (m_X11_volts l D ct S ws_18 ph xx mo mw ma mf m0 m1 mu mv u0 u1 iz mb th mn mpt mbg mwr mwk mlf men f G cx (rf_of f p1 11) k_9 _ hT hph hy1 hR (rf_stat hR hc).1.1 (rf_rk0 hk_8)) (cm_V 2 hts kc_X11_volts ki_RX11 kl_RX11_215 kv_X11_volts kx_X11_volts kd_X11_volts ⟨Nat.le_of_ble_eq_true rfl, Nat.le_of_ble_eq_true rfl⟩) (ty_preE (ci := 11) (q0 := 0) hP hK hD hS hA hX rfl rfl) rfl rfl hl.1 rfl (lv_room (Nat.le_of_ble_eq_true rfl)) dX11_restAt_75 ⟨Nat.le_of_ble_eq_true rfl, Nat.le_of_ble_eq_true rfl⟩) (fun r_22 u H locs hw_23 hP hD hS => ?_)
  obtain ⟨ws_24, rfl⟩ : ∃ z, z = u := ⟨_, rfl⟩
  obtain ⟨hT, hp_25⟩ := hw_23
  have hp_25 : (q_X11_volts f (rf_of f p1 11) k_9 r_22) := hp_25
  obtain ⟨hP, hD⟩ := ty_shPD (w2 := ([(rf_MO mo mw ma mf m0 m1 mu mv u0 u1 iz th mb mn mpt mbg mwr mwk mlf men), (rf_RW ct 0 mw 958 f)] ++ ws_24)) hP hD rfl
  refine lv_lload hx hb dX11_restAt_78 (lv_at hl 0 rfl) ?_
  refine lv_lload hx hb dX11_restAt_80 (lv_at hl 2 rfl) ?_
  refine lv_iload hx hb dX11_restAt_82 (lv_at hl 1 rfl) ?_
  refine lv_i2l hx hb dX11_restAt_84 rfl ?_
  refine lv_lload hx hb dX11_restAt_85 (lv_at hl 3 rfl) ?_
  refine lv_lmul hx hb dX11_restAt_87 ?_
  refine lv_lsub hx hb dX11_restAt_88 ?_
  refine lv_lmul hx hb dX11_restAt_89 ?_
  refine lv_lload hx hb dX11_restAt_90 (lv_at hl 3 rfl) ?_
  refine lv_ldiv hx hb dX11_restAt_92 (rf_nzl (by have := rf_full hR hc; omega)) ?_
  refine lv_l2i hx hb dX11_restAt_93 rfl ?_
  refine lv_iadd hx hb dX11_restAt_94 ?_
  exact W.iret (v := (r_22 + (((((r_10 - r_16).toInt64) * ((p2.toInt64 * (((f (20 + 19 * (rf_of f p1 11).toInt.toNat + 7)) - 1).toInt64)) - (k_9.toInt64 * ((rf_of f p1 7).toInt64)))) / ((rf_of f p1 7).toInt64)).toInt32))) hx hb hr (fun t ht hW => ⟨⟨(r_22 + (((((r_10 - r_16).toInt64) * ((p2.toInt64 * (((f (20 + 19 * (rf_of f p1 11).toInt.toNat + 7)) - 1).toInt64)) - (k_9.toInt64 * ((rf_of f p1 7).toInt64)))) / ((rf_of f p1 7).toInt64)).toInt32)), ws_24, rfl, ⟨hT, ⟨k_9, hk_9, ⟨r_10, hp_13, ⟨r_16, hp_19, ⟨r_22, hp_25, rfl⟩⟩⟩⟩⟩, by rw [ht]; exact hP, by rw [hAe]; exact hD⟩, hS.F ht⟩) hS.2.2 dX11_restAt_95
def q_X11_filled (f : Nat → Int32) (p1 : Int32) (r : Int32) : Prop := (r = ((1000 * ((rf_of f p1 6).toInt64)) / ((rf_of f p1 7).toInt64)).toInt32)
set_option maxRecDepth 100000 in
set_option maxHeartbeats 4000000 in
theorem m_X11_filled (l : Launch) (D : va_G) (ct : Nat → ClassId) (S : ty_S) (ws : va_W) (ph : va_W → Prop) (xx : Nat → Nat → Nat → Prop) (mo : Nat) (mw : Nat) (ma : Nat) (mf : Nat) (m0 : Nat) (m1 : Nat) (mu : Nat) (mv : Nat) (u0 : Nat) (u1 : Nat) (iz : Nat) (mb : Nat) (th : Int32) (mn : Int32) (mpt : Int32) (mbg : Int32) (mwr : Int32) (mwk : Int32) (mlf : Int32) (men : Int32) (f : Nat → Int32) (G : Nat → Int32) (cx : Int) (p1 : Int32) (sz : Nat) (hT : ty_V ct S ph ws) (hph : ty_C ph xx) (hy1 : ty_y1 xx) (hR : rf_R G cx f) (hc : 0 ≤ p1.toInt ∧ p1.toInt < (G 9).toInt) : Met l yX11_filled (ws_ yX11_filled cX11_filled 2 (some .int)) ({ frames := 1, cells := 0, slots := 0, locals := 22 } : Room) (va_Pc [.ref mo, .int p1] (cmP D ct sz ([(rf_MO mo mw ma mf m0 m1 mu mv u0 u1 iz th mb mn mpt mbg mwr mwk mlf men), (rf_RW ct 0 mw 958 f)] ++ ws))) (va_Qi (fun (r : Int32) (u9 : va_W) => ty_V ct S ph u9 ∧ (q_X11_filled f p1 r) ∧ 0 ≤ r.toInt) (cmB D ([(rf_MO mo mw ma mf m0 m1 mu mv u0 u1 iz th mb mn mpt mbg mwr mwk mlf men), (rf_RW ct 0 mw 958 f)] ++ ws) sz (fun (u9 : va_W) => ([(rf_MO mo mw ma mf m0 m1 mu mv u0 u1 iz th mb mn mpt mbg mwr mwk mlf men), (rf_RW ct 0 mw 958 f)] ++ u9))) (va_A ([(rf_MO mo mw ma mf m0 m1 mu mv u0 u1 iz th mb mn mpt mbg mwr mwk mlf men), (rf_RW ct 0 mw 958 f)] ++ ws) sz)) 0 0 (va_A ([(rf_MO mo mw ma mf m0 m1 mu mv u0 u1 iz th mb mn mpt mbg mwr mwk mlf men), (rf_RW ct 0 mw 958 f)] ++ ws) sz) := by
  refine Met.ofW (cc := cX11_filled) (maxL := 2) (ret := (some .int)) (by decide) rfl ?_
  intro p e s m args below meth c s₁ B hml hv
  obtain ⟨rfl, hsz, hP, hK, hD0, hX⟩ := hv
  have hx := B.exec
  have hb := B.bytes
  have hr := B.returns
  have hts := ws_all (atoms_spec (ws := ws_ yX11_filled cX11_filled 2 (some .int)) B.pre)
  have hown : s.vm.findClass RX11 = some m.cls := findClass_of_methodNamed B.named
  have hlocks := B.notSynchronized
  subst hsz
  have hD := hD0.self (sz := s.heap.size)
  generalize hAe : va_A ([(rf_MO mo mw ma mf m0 m1 mu mv u0 u1 iz th mb mn mpt mbg mwr mwk mlf men), (rf_RW ct 0 mw 958 f)] ++ ws) s.heap.size = A at hD hX ⊢
  have hA : ∀ q : Nat, s.heap.size ≤ q → A q := fun q h => by rw [← hAe]; exact Or.inr h
  have hS : va_S A s.heap s.heap [] := va_S.rf
  have hl := lv_entry ([.ref mo, .int p1]) (n := 2) (Nat.le_of_ble_eq_true rfl)
  rw [lg_entry_eq]
  generalize (lg_sl ([.ref mo, .int p1]) ++ List.replicate (2 - (lg_sl ([.ref mo, .int p1])).length) Slot.unset).toArray = ls at hl ⊢
  have hl : lv_has ls 2 [(0, .ref mo), (1, .int p1)] := hl
  refine lv_ldc2 hx hb hown (hts _ kl_RX11_303) dX11_filled_0 ?_
  refine lv_aload_n hx hb dX11_filled_3 rfl (lv_at hl 0 rfl) ?_
  refine lv_iload_n hx hb dX11_filled_4 rfl (lv_at hl 1 rfl) ?_
  refine lv_bipush (v := 6) hx hb dX11_filled_5 (by decide) ?_
  obtain ⟨hP, hD⟩ := ty_ipPD (E1 := []) (E2 := [(rf_MO mo mw ma mf m0 m1 mu mv u0 u1 iz th mb mn mpt mbg mwr mwk mlf men), (rf_RW ct 0 mw 958 f)]) hP hD rfl ty_mva
  refine ty_Ki hP hD hS hA (va_runV (As := [.int p1, .int 6]) (rest := [.long 1000]) ⟨hx, hb, hml, hown, hts⟩ (m_of_6 l D ct S ws ph xx mo mw ma mf m0 m1 mu mv u0 u1 iz mb th mn mpt mbg mwr mwk mlf men f G cx p1 _ hT hph hy1 hR hc) (cm_V 2 hts kc_X11_of ki_RX11 kl_RX11_209 kv_X11_of kx_X11_of kd_X11_of ⟨Nat.le_of_ble_eq_true rfl, Nat.le_of_ble_eq_true rfl⟩) (ty_preE (ci := 11) (q0 := 0) hP hK hD hS hA hX rfl rfl) rfl rfl hl.1 rfl (lv_room (Nat.le_of_ble_eq_true rfl)) dX11_filled_7 ⟨Nat.le_of_ble_eq_true rfl, Nat.le_of_ble_eq_true rfl⟩) (fun r_1 u H locs hw_2 hP hD hS => ?_)
  obtain ⟨ws_3, rfl⟩ : ∃ z, z = u := ⟨_, rfl⟩
  obtain ⟨hT, rfl⟩ := hw_2
  obtain ⟨hP, hD⟩ := ty_shPD (w2 := ([(rf_MO mo mw ma mf m0 m1 mu mv u0 u1 iz th mb mn mpt mbg mwr mwk mlf men), (rf_RW ct 0 mw 958 f)] ++ ws_3)) hP hD rfl
  refine lv_i2l hx hb dX11_filled_10 rfl ?_
  refine lv_lmul hx hb dX11_filled_11 ?_
  refine lv_aload_n hx hb dX11_filled_12 rfl (lv_at hl 0 rfl) ?_
  refine lv_iload_n hx hb dX11_filled_13 rfl (lv_at hl 1 rfl) ?_
  refine lv_bipush (v := 7) hx hb dX11_filled_14 (by decide) ?_
  obtain ⟨hP, hD⟩ := ty_ipPD (E1 := []) (E2 := [(rf_MO mo mw ma mf m0 m1 mu mv u0 u1 iz th mb mn mpt mbg mwr mwk mlf men), (rf_RW ct 0 mw 958 f)]) hP hD rfl ty_mva
  refine ty_Ki hP hD hS hA (va_runV (As := [.int p1, .int 7]) (rest := [.long (1000 * ((rf_of f p1 6).toInt64))]) ⟨hx, hb, hml, hown, hts⟩ (m_of_7 l D ct S ws_3 ph xx mo mw ma mf m0 m1 mu mv u0 u1 iz mb th mn mpt mbg mwr mwk mlf men f G cx p1 _ hT hph hy1 hR hc) (cm_V 2 hts kc_X11_of ki_RX11 kl_RX11_209 kv_X11_of kx_X11_of kd_X11_of ⟨Nat.le_of_ble_eq_true rfl, Nat.le_of_ble_eq_true rfl⟩) (ty_preE (ci := 11) (q0 := 0) hP hK hD hS hA hX rfl rfl) rfl rfl hl.1 rfl (lv_room (Nat.le_of_ble_eq_true rfl)) dX11_filled_16 ⟨Nat.le_of_ble_eq_true rfl, Nat.le_of_ble_eq_true rfl⟩) (fun r_4 u H locs hw_5 hP hD hS => ?_)
  obtain ⟨ws_6, rfl⟩ : ∃ z, z = u := ⟨_, rfl⟩
  obtain ⟨hT, rfl⟩ := hw_5
  obtain ⟨hP, hD⟩ := ty_shPD (w2 := ([(rf_MO mo mw ma mf m0 m1 mu mv u0 u1 iz th mb mn mpt mbg mwr mwk mlf men), (rf_RW ct 0 mw 958 f)] ++ ws_6)) hP hD rfl
  refine lv_i2l hx hb dX11_filled_19 rfl ?_
  refine lv_ldiv hx hb dX11_filled_20 (rf_nzl (by have := rf_full hR hc; omega)) ?_
  refine lv_l2i hx hb dX11_filled_21 rfl ?_
  exact W.iret (v := ((1000 * ((rf_of f p1 6).toInt64)) / ((rf_of f p1 7).toInt64)).toInt32) hx hb hr (fun t ht hW => ⟨⟨((1000 * ((rf_of f p1 6).toInt64)) / ((rf_of f p1 7).toInt64)).toInt32, ws_6, rfl, ⟨hT, ⟨rfl, (rf_fl (by have := rf_qp hR hc; omega) (rf_full hR hc))⟩⟩, by rw [ht]; exact hP, by rw [hAe]; exact hD⟩, hS.F ht⟩) hS.2.2 dX11_filled_22
def q_X11_share (f : Nat → Int32) (p1 : Int32) (r : Int32) : Prop := (r = ((1000 * ((rf_of f p1 7).toInt64)) / ((rf_of f p1 12).toInt64)).toInt32)
set_option maxRecDepth 100000 in
set_option maxHeartbeats 4000000 in
theorem m_X11_share (l : Launch) (D : va_G) (ct : Nat → ClassId) (S : ty_S) (ws : va_W) (ph : va_W → Prop) (xx : Nat → Nat → Nat → Prop) (mo : Nat) (mw : Nat) (ma : Nat) (mf : Nat) (m0 : Nat) (m1 : Nat) (mu : Nat) (mv : Nat) (u0 : Nat) (u1 : Nat) (iz : Nat) (mb : Nat) (th : Int32) (mn : Int32) (mpt : Int32) (mbg : Int32) (mwr : Int32) (mwk : Int32) (mlf : Int32) (men : Int32) (f : Nat → Int32) (G : Nat → Int32) (cx : Int) (p1 : Int32) (sz : Nat) (hT : ty_V ct S ph ws) (hph : ty_C ph xx) (hy1 : ty_y1 xx) (hR : rf_R G cx f) (hc : 0 ≤ p1.toInt ∧ p1.toInt < (G 9).toInt) : Met l yX11_share (ws_ yX11_share cX11_share 2 (some .int)) ({ frames := 1, cells := 0, slots := 0, locals := 22 } : Room) (va_Pc [.ref mo, .int p1] (cmP D ct sz ([(rf_MO mo mw ma mf m0 m1 mu mv u0 u1 iz th mb mn mpt mbg mwr mwk mlf men), (rf_RW ct 0 mw 958 f)] ++ ws))) (va_Qi (fun (r : Int32) (u9 : va_W) => ty_V ct S ph u9 ∧ (q_X11_share f p1 r)) (cmB D ([(rf_MO mo mw ma mf m0 m1 mu mv u0 u1 iz th mb mn mpt mbg mwr mwk mlf men), (rf_RW ct 0 mw 958 f)] ++ ws) sz (fun (u9 : va_W) => ([(rf_MO mo mw ma mf m0 m1 mu mv u0 u1 iz th mb mn mpt mbg mwr mwk mlf men), (rf_RW ct 0 mw 958 f)] ++ u9))) (va_A ([(rf_MO mo mw ma mf m0 m1 mu mv u0 u1 iz th mb mn mpt mbg mwr mwk mlf men), (rf_RW ct 0 mw 958 f)] ++ ws) sz)) 0 0 (va_A ([(rf_MO mo mw ma mf m0 m1 mu mv u0 u1 iz th mb mn mpt mbg mwr mwk mlf men), (rf_RW ct 0 mw 958 f)] ++ ws) sz) := by
  refine Met.ofW (cc := cX11_share) (maxL := 2) (ret := (some .int)) (by decide) rfl ?_
  intro p e s m args below meth c s₁ B hml hv
  obtain ⟨rfl, hsz, hP, hK, hD0, hX⟩ := hv
  have hx := B.exec
  have hb := B.bytes
  have hr := B.returns
  have hts := ws_all (atoms_spec (ws := ws_ yX11_share cX11_share 2 (some .int)) B.pre)
  have hown : s.vm.findClass RX11 = some m.cls := findClass_of_methodNamed B.named
  have hlocks := B.notSynchronized
  subst hsz
  have hD := hD0.self (sz := s.heap.size)
  generalize hAe : va_A ([(rf_MO mo mw ma mf m0 m1 mu mv u0 u1 iz th mb mn mpt mbg mwr mwk mlf men), (rf_RW ct 0 mw 958 f)] ++ ws) s.heap.size = A at hD hX ⊢
  have hA : ∀ q : Nat, s.heap.size ≤ q → A q := fun q h => by rw [← hAe]; exact Or.inr h
  have hS : va_S A s.heap s.heap [] := va_S.rf
  have hl := lv_entry ([.ref mo, .int p1]) (n := 2) (Nat.le_of_ble_eq_true rfl)
  rw [lg_entry_eq]
  generalize (lg_sl ([.ref mo, .int p1]) ++ List.replicate (2 - (lg_sl ([.ref mo, .int p1])).length) Slot.unset).toArray = ls at hl ⊢
  have hl : lv_has ls 2 [(0, .ref mo), (1, .int p1)] := hl
  refine lv_ldc2 hx hb hown (hts _ kl_RX11_303) dX11_share_0 ?_
  refine lv_aload_n hx hb dX11_share_3 rfl (lv_at hl 0 rfl) ?_
  refine lv_iload_n hx hb dX11_share_4 rfl (lv_at hl 1 rfl) ?_
  refine lv_bipush (v := 7) hx hb dX11_share_5 (by decide) ?_
  obtain ⟨hP, hD⟩ := ty_ipPD (E1 := []) (E2 := [(rf_MO mo mw ma mf m0 m1 mu mv u0 u1 iz th mb mn mpt mbg mwr mwk mlf men), (rf_RW ct 0 mw 958 f)]) hP hD rfl ty_mva
  refine ty_Ki hP hD hS hA (va_runV (As := [.int p1, .int 7]) (rest := [.long 1000]) ⟨hx, hb, hml, hown, hts⟩ (m_of_7 l D ct S ws ph xx mo mw ma mf m0 m1 mu mv u0 u1 iz mb th mn mpt mbg mwr mwk mlf men f G cx p1 _ hT hph hy1 hR hc) (cm_V 2 hts kc_X11_of ki_RX11 kl_RX11_209 kv_X11_of kx_X11_of kd_X11_of ⟨Nat.le_of_ble_eq_true rfl, Nat.le_of_ble_eq_true rfl⟩) (ty_preE (ci := 11) (q0 := 0) hP hK hD hS hA hX rfl rfl) rfl rfl hl.1 rfl (lv_room (Nat.le_of_ble_eq_true rfl)) dX11_share_7 ⟨Nat.le_of_ble_eq_true rfl, Nat.le_of_ble_eq_true rfl⟩) (fun r_1 u H locs hw_2 hP hD hS => ?_)
  obtain ⟨ws_3, rfl⟩ : ∃ z, z = u := ⟨_, rfl⟩
  obtain ⟨hT, rfl⟩ := hw_2
  obtain ⟨hP, hD⟩ := ty_shPD (w2 := ([(rf_MO mo mw ma mf m0 m1 mu mv u0 u1 iz th mb mn mpt mbg mwr mwk mlf men), (rf_RW ct 0 mw 958 f)] ++ ws_3)) hP hD rfl
  refine lv_i2l hx hb dX11_share_10 rfl ?_
  refine lv_lmul hx hb dX11_share_11 ?_
  refine lv_aload_n hx hb dX11_share_12 rfl (lv_at hl 0 rfl) ?_
  refine lv_iload_n hx hb dX11_share_13 rfl (lv_at hl 1 rfl) ?_
  refine lv_bipush (v := 12) hx hb dX11_share_14 (by decide) ?_
  obtain ⟨hP, hD⟩ := ty_ipPD (E1 := []) (E2 := [(rf_MO mo mw ma mf m0 m1 mu mv u0 u1 iz th mb mn mpt mbg mwr mwk mlf men), (rf_RW ct 0 mw 958 f)]) hP hD rfl ty_mva
  refine ty_Ki hP hD hS hA (va_runV (As := [.int p1, .int 12]) (rest := [.long (1000 * ((rf_of f p1 7).toInt64))]) ⟨hx, hb, hml, hown, hts⟩ (m_of_12 l D ct S ws_3 ph xx mo mw ma mf m0 m1 mu mv u0 u1 iz mb th mn mpt mbg mwr mwk mlf men f G cx p1 _ hT hph hy1 hR hc) (cm_V 2 hts kc_X11_of ki_RX11 kl_RX11_209 kv_X11_of kx_X11_of kd_X11_of ⟨Nat.le_of_ble_eq_true rfl, Nat.le_of_ble_eq_true rfl⟩) (ty_preE (ci := 11) (q0 := 0) hP hK hD hS hA hX rfl rfl) rfl rfl hl.1 rfl (lv_room (Nat.le_of_ble_eq_true rfl)) dX11_share_16 ⟨Nat.le_of_ble_eq_true rfl, Nat.le_of_ble_eq_true rfl⟩) (fun r_4 u H locs hw_5 hP hD hS => ?_)
  obtain ⟨ws_6, rfl⟩ : ∃ z, z = u := ⟨_, rfl⟩
  obtain ⟨hT, rfl⟩ := hw_5
  obtain ⟨hP, hD⟩ := ty_shPD (w2 := ([(rf_MO mo mw ma mf m0 m1 mu mv u0 u1 iz th mb mn mpt mbg mwr mwk mlf men), (rf_RW ct 0 mw 958 f)] ++ ws_6)) hP hD rfl
  refine lv_i2l hx hb dX11_share_19 rfl ?_
  refine lv_ldiv hx hb dX11_share_20 (rf_nzl (by have := rf_qp hR hc; omega)) ?_
  refine lv_l2i hx hb dX11_share_21 rfl ?_
  exact W.iret (v := ((1000 * ((rf_of f p1 7).toInt64)) / ((rf_of f p1 12).toInt64)).toInt32) hx hb hr (fun t ht hW => ⟨⟨((1000 * ((rf_of f p1 7).toInt64)) / ((rf_of f p1 12).toInt64)).toInt32, ws_6, rfl, ⟨hT, rfl⟩, by rw [ht]; exact hP, by rw [hAe]; exact hD⟩, hS.F ht⟩) hS.2.2 dX11_share_22
def q_X11_wantedOf (f : Nat → Int32) (p1 : Int32) (r : Int32) : Prop := ((¬ (rf_st3 f p1 0) = (0 : Int32) ∧ ((¬ (rf_st3 f p1 0) = (3 : Int32) ∧ ((¬ (rf_st3 f p1 0) = (2 : Int32) ∧ (∃ (r_13 : Int32), (q_X11_restAt f p1 (rf_of f p1 6) r_13) ∧ (r = (if 0 < (if (((((rf_st3 f p1 1) - r_13) - (rf_of f p1 8)) * 1000) / (rf_of f p1 13)) < 5000 then (((((rf_st3 f p1 1) - r_13) - (rf_of f p1 8)) * 1000) / (rf_of f p1 13)) else 5000) then (if (((((rf_st3 f p1 1) - r_13) - (rf_of f p1 8)) * 1000) / (rf_of f p1 13)) < 5000 then (((((rf_st3 f p1 1) - r_13) - (rf_of f p1 8)) * 1000) / (rf_of f p1 13)) else 5000) else 0)))) ∨ ((rf_st3 f p1 0) = (2 : Int32) ∧ (r = (- (rf_st3 f p1 1)))))) ∨ ((rf_st3 f p1 0) = (3 : Int32) ∧ (r = 0)))) ∨ ((rf_st3 f p1 0) = (0 : Int32) ∧ (r = (rf_st3 f p1 1))))
set_option maxRecDepth 100000 in
set_option maxHeartbeats 4000000 in
theorem m_X11_wantedOf (l : Launch) (D : va_G) (ct : Nat → ClassId) (S : ty_S) (ws : va_W) (ph : va_W → Prop) (xx : Nat → Nat → Nat → Prop) (mo : Nat) (mw : Nat) (ma : Nat) (mf : Nat) (m0 : Nat) (m1 : Nat) (mu : Nat) (mv : Nat) (u0 : Nat) (u1 : Nat) (iz : Nat) (mb : Nat) (th : Int32) (mn : Int32) (mpt : Int32) (mbg : Int32) (mwr : Int32) (mwk : Int32) (mlf : Int32) (men : Int32) (f : Nat → Int32) (G : Nat → Int32) (cx : Int) (p1 : Int32) (sz : Nat) (hT : ty_V ct S ph ws) (hph : ty_C ph xx) (hy1 : ty_y1 xx) (hR : rf_R G cx f) (hc : 0 ≤ p1.toInt ∧ p1.toInt < (G 9).toInt) (ho : rf_on G f p1) : Met l yX11_wantedOf (ws_ yX11_wantedOf cX11_wantedOf 4 (some .int)) ({ frames := 2, cells := 0, slots := 0, locals := 53 } : Room) (va_Pc [.ref mo, .int p1] (cmP D ct sz ([(rf_MO mo mw ma mf m0 m1 mu mv u0 u1 iz th mb mn mpt mbg mwr mwk mlf men), (rf_RW ct 0 mw 958 f)] ++ ws))) (va_Qi (fun (r : Int32) (u9 : va_W) => ty_V ct S ph u9 ∧ (q_X11_wantedOf f p1 r) ∧ -5000 ≤ r.toInt ∧ r.toInt ≤ 5000) (cmB D ([(rf_MO mo mw ma mf m0 m1 mu mv u0 u1 iz th mb mn mpt mbg mwr mwk mlf men), (rf_RW ct 0 mw 958 f)] ++ ws) sz (fun (u9 : va_W) => ([(rf_MO mo mw ma mf m0 m1 mu mv u0 u1 iz th mb mn mpt mbg mwr mwk mlf men), (rf_RW ct 0 mw 958 f)] ++ u9))) (va_A ([(rf_MO mo mw ma mf m0 m1 mu mv u0 u1 iz th mb mn mpt mbg mwr mwk mlf men), (rf_RW ct 0 mw 958 f)] ++ ws) sz)) 0 0 (va_A ([(rf_MO mo mw ma mf m0 m1 mu mv u0 u1 iz th mb mn mpt mbg mwr mwk mlf men), (rf_RW ct 0 mw 958 f)] ++ ws) sz) := by
  refine Met.ofW (cc := cX11_wantedOf) (maxL := 4) (ret := (some .int)) (by decide) rfl ?_
  intro p e s m args below meth c s₁ B hml hv
  obtain ⟨rfl, hsz, hP, hK, hD0, hX⟩ := hv
  have hx := B.exec
  have hb := B.bytes
  have hr := B.returns
  have hts := ws_all (atoms_spec (ws := ws_ yX11_wantedOf cX11_wantedOf 4 (some .int)) B.pre)
  have hown : s.vm.findClass RX11 = some m.cls := findClass_of_methodNamed B.named
  have hlocks := B.notSynchronized
  subst hsz
  have hD := hD0.self (sz := s.heap.size)
  generalize hAe : va_A ([(rf_MO mo mw ma mf m0 m1 mu mv u0 u1 iz th mb mn mpt mbg mwr mwk mlf men), (rf_RW ct 0 mw 958 f)] ++ ws) s.heap.size = A at hD hX ⊢
  have hA : ∀ q : Nat, s.heap.size ≤ q → A q := fun q h => by rw [← hAe]; exact Or.inr h
  have hS : va_S A s.heap s.heap [] := va_S.rf
  have hl := lv_entry ([.ref mo, .int p1]) (n := 4) (Nat.le_of_ble_eq_true rfl)
  rw [lg_entry_eq]
  generalize (lg_sl ([.ref mo, .int p1]) ++ List.replicate (4 - (lg_sl ([.ref mo, .int p1])).length) Slot.unset).toArray = ls at hl ⊢
  have hl : lv_has ls 4 [(0, .ref mo), (1, .int p1)] := hl
  refine lv_aload_n hx hb dX11_wantedOf_0 rfl (lv_at hl 0 rfl) ?_
  refine lv_iload_n hx hb dX11_wantedOf_1 rfl (lv_at hl 1 rfl) ?_
  refine lv_iconst (v := 0) hx hb dX11_wantedOf_2 (by decide) ?_
  obtain ⟨hP, hD⟩ := ty_ipPD (E1 := []) (E2 := [(rf_MO mo mw ma mf m0 m1 mu mv u0 u1 iz th mb mn mpt mbg mwr mwk mlf men), (rf_RW ct 0 mw 958 f)]) hP hD rfl ty_mva
  refine ty_Ki hP hD hS hA (va_runV (As := [.int p1, .int 0]) (rest := []) ⟨hx, hb, hml, hown, hts⟩ (m_step_0 l D ct S ws ph xx mo mw ma mf m0 m1 mu mv u0 u1 iz mb th mn mpt mbg mwr mwk mlf men f G cx p1 _ hT hph hy1 hR hc ho) (cm_V 2 hts kc_X11_step ki_RX11 kl_RX11_228 kv_X11_step kx_X11_step kd_X11_step ⟨Nat.le_of_ble_eq_true rfl, Nat.le_of_ble_eq_true rfl⟩) (ty_preE (ci := 11) (q0 := 0) hP hK hD hS hA hX rfl rfl) rfl rfl hl.1 rfl (lv_room (Nat.le_of_ble_eq_true rfl)) dX11_wantedOf_3 ⟨Nat.le_of_ble_eq_true rfl, Nat.le_of_ble_eq_true rfl⟩) (fun r_1 u H locs hw_2 hP hD hS => ?_)
  obtain ⟨ws_3, rfl⟩ : ∃ z, z = u := ⟨_, rfl⟩
  obtain ⟨hT, rfl⟩ := hw_2
  obtain ⟨hP, hD⟩ := ty_shPD (w2 := ([(rf_MO mo mw ma mf m0 m1 mu mv u0 u1 iz th mb mn mpt mbg mwr mwk mlf men), (rf_RW ct 0 mw 958 f)] ++ ws_3)) hP hD rfl
  refine lv_istore_n (lv' := [(2, .int (rf_st3 f p1 0)), (0, .ref mo), (1, .int p1)]) hx hb dX11_wantedOf_6 rfl hl (by decide) rfl (fun ls hl => ?_)
  refine lv_iload_n hx hb dX11_wantedOf_7 rfl (lv_at hl 0 rfl) ?_
  refine lv_if_ne (tgt := 18) hx hb dX11_wantedOf_8 (by decide) (fun hc_4 => ?_) (fun hc_4 => ?_)
  · refine lv_iload_n hx hb dX11_wantedOf_18 rfl (lv_at hl 0 rfl) ?_
    refine lv_iconst (v := 3) hx hb dX11_wantedOf_19 (by decide) ?_
    refine lv_icmp_ne (tgt := 25) hx hb dX11_wantedOf_20 (by decide) (fun hc_5 => ?_) (fun hc_5 => ?_)
    · refine lv_iload_n hx hb dX11_wantedOf_25 rfl (lv_at hl 0 rfl) ?_
      refine lv_iconst (v := 2) hx hb dX11_wantedOf_26 (by decide) ?_
      refine lv_icmp_ne (tgt := 38) hx hb dX11_wantedOf_27 (by decide) (fun hc_6 => ?_) (fun hc_6 => ?_)
      · refine lv_aload_n hx hb dX11_wantedOf_38 rfl (lv_at hl 1 rfl) ?_
        refine lv_iload_n hx hb dX11_wantedOf_39 rfl (lv_at hl 2 rfl) ?_
        refine lv_iconst (v := 1) hx hb dX11_wantedOf_40 (by decide) ?_
        obtain ⟨hP, hD⟩ := ty_ipPD (E1 := []) (E2 := [(rf_MO mo mw ma mf m0 m1 mu mv u0 u1 iz th mb mn mpt mbg mwr mwk mlf men), (rf_RW ct 0 mw 958 f)]) hP hD rfl ty_mva
        refine ty_Ki hP hD hS hA (va_runV (As := [.int p1, .int 1]) (rest := []) ⟨hx, hb, hml, hown, hts⟩ (m_step_1 l D ct S ws_3 ph xx mo mw ma mf m0 m1 mu mv u0 u1 iz mb th mn mpt mbg mwr mwk mlf men f G cx p1 _ hT hph hy1 hR hc ho) (cm_V 2 hts kc_X11_step ki_RX11 kl_RX11_228 kv_X11_step kx_X11_step kd_X11_step ⟨Nat.le_of_ble_eq_true rfl, Nat.le_of_ble_eq_true rfl⟩) (ty_preE (ci := 11) (q0 := 0) hP hK hD hS hA hX rfl rfl) rfl rfl hl.1 rfl (lv_room (Nat.le_of_ble_eq_true rfl)) dX11_wantedOf_41 ⟨Nat.le_of_ble_eq_true rfl, Nat.le_of_ble_eq_true rfl⟩) (fun r_7 u H locs hw_8 hP hD hS => ?_)
        obtain ⟨ws_9, rfl⟩ : ∃ z, z = u := ⟨_, rfl⟩
        obtain ⟨hT, rfl⟩ := hw_8
        obtain ⟨hP, hD⟩ := ty_shPD (w2 := ([(rf_MO mo mw ma mf m0 m1 mu mv u0 u1 iz th mb mn mpt mbg mwr mwk mlf men), (rf_RW ct 0 mw 958 f)] ++ ws_9)) hP hD rfl
        refine lv_aload_n hx hb dX11_wantedOf_44 rfl (lv_at hl 1 rfl) ?_
        refine lv_iload_n hx hb dX11_wantedOf_45 rfl (lv_at hl 2 rfl) ?_
        refine lv_aload_n hx hb dX11_wantedOf_46 rfl (lv_at hl 1 rfl) ?_
        refine lv_iload_n hx hb dX11_wantedOf_47 rfl (lv_at hl 2 rfl) ?_
        refine lv_bipush (v := 6) hx hb dX11_wantedOf_48 (by decide) ?_
        obtain ⟨hP, hD⟩ := ty_ipPD (E1 := []) (E2 := [(rf_MO mo mw ma mf m0 m1 mu mv u0 u1 iz th mb mn mpt mbg mwr mwk mlf men), (rf_RW ct 0 mw 958 f)]) hP hD rfl ty_mva
        refine ty_Ki hP hD hS hA (va_runV (As := [.int p1, .int 6]) (rest := [.int p1, .ref mo, .int (rf_st3 f p1 1)]) ⟨hx, hb, hml, hown, hts⟩ (m_of_6 l D ct S ws_9 ph xx mo mw ma mf m0 m1 mu mv u0 u1 iz mb th mn mpt mbg mwr mwk mlf men f G cx p1 _ hT hph hy1 hR hc) (cm_V 2 hts kc_X11_of ki_RX11 kl_RX11_209 kv_X11_of kx_X11_of kd_X11_of ⟨Nat.le_of_ble_eq_true rfl, Nat.le_of_ble_eq_true rfl⟩) (ty_preE (ci := 11) (q0 := 0) hP hK hD hS hA hX rfl rfl) rfl rfl hl.1 rfl (lv_room (Nat.le_of_ble_eq_true rfl)) dX11_wantedOf_50 ⟨Nat.le_of_ble_eq_true rfl, Nat.le_of_ble_eq_true rfl⟩) (fun r_10 u H locs hw_11 hP hD hS => ?_)
        obtain ⟨ws_12, rfl⟩ : ∃ z, z = u := ⟨_, rfl⟩
        obtain ⟨hT, rfl⟩ := hw_11
        obtain ⟨hP, hD⟩ := ty_shPD (w2 := ([(rf_MO mo mw ma mf m0 m1 mu mv u0 u1 iz th mb mn mpt mbg mwr mwk mlf men), (rf_RW ct 0 mw 958 f)] ++ ws_12)) hP hD rfl
        obtain ⟨hP, hD⟩ := ty_ipPD (E1 := []) (E2 := [(rf_MO mo mw ma mf m0 m1 mu mv u0 u1 iz th mb mn mpt mbg mwr mwk mlf men), (rf_RW ct 0 mw 958 f)]) hP hD rfl ty_mva
        refine ty_Ki hP hD hS hA (va_runV (As := [.int p1, .int (rf_of f p1 6)]) (rest := [.int (rf_st3 f p1 1)]) ⟨hx, hb, hml, hown, hts⟩ (m_X11_restAt l D ct S ws_12 ph xx mo mw ma mf m0 m1 mu mv u0 u1 iz mb th mn mpt mbg mwr mwk mlf men f G cx p1 (rf_of f p1 6) _ hT hph hy1 hR hc (rf_qp hR hc).1.1.1) (cm_V 2 hts kc_X11_restAt ki_RX11 kl_RX11_231 kv_X11_restAt kx_X11_restAt kd_X11_restAt ⟨Nat.le_of_ble_eq_true rfl, Nat.le_of_ble_eq_true rfl⟩) (ty_preE (ci := 11) (q0 := 0) hP hK hD hS hA hX rfl rfl) rfl rfl hl.1 rfl (lv_room (Nat.le_of_ble_eq_true rfl)) dX11_wantedOf_53 ⟨Nat.le_of_ble_eq_true rfl, Nat.le_of_ble_eq_true rfl⟩) (fun r_13 u H locs hw_14 hP hD hS => ?_)
        obtain ⟨ws_15, rfl⟩ : ∃ z, z = u := ⟨_, rfl⟩
        obtain ⟨hT, hp_16⟩ := hw_14
        have hp_16 : (q_X11_restAt f p1 (rf_of f p1 6) r_13) := hp_16
        obtain ⟨hP, hD⟩ := ty_shPD (w2 := ([(rf_MO mo mw ma mf m0 m1 mu mv u0 u1 iz th mb mn mpt mbg mwr mwk mlf men), (rf_RW ct 0 mw 958 f)] ++ ws_15)) hP hD rfl
        refine lv_isub hx hb dX11_wantedOf_56 ?_
        refine lv_aload_n hx hb dX11_wantedOf_57 rfl (lv_at hl 1 rfl) ?_
        refine lv_iload_n hx hb dX11_wantedOf_58 rfl (lv_at hl 2 rfl) ?_
        refine lv_bipush (v := 8) hx hb dX11_wantedOf_59 (by decide) ?_
        obtain ⟨hP, hD⟩ := ty_ipPD (E1 := []) (E2 := [(rf_MO mo mw ma mf m0 m1 mu mv u0 u1 iz th mb mn mpt mbg mwr mwk mlf men), (rf_RW ct 0 mw 958 f)]) hP hD rfl ty_mva
        refine ty_Ki hP hD hS hA (va_runV (As := [.int p1, .int 8]) (rest := [.int ((rf_st3 f p1 1) - r_13)]) ⟨hx, hb, hml, hown, hts⟩ (m_of_8 l D ct S ws_15 ph xx mo mw ma mf m0 m1 mu mv u0 u1 iz mb th mn mpt mbg mwr mwk mlf men f G cx p1 _ hT hph hy1 hR hc) (cm_V 2 hts kc_X11_of ki_RX11 kl_RX11_209 kv_X11_of kx_X11_of kd_X11_of ⟨Nat.le_of_ble_eq_true rfl, Nat.le_of_ble_eq_true rfl⟩) (ty_preE (ci := 11) (q0 := 0) hP hK hD hS hA hX rfl rfl) rfl rfl hl.1 rfl (lv_room (Nat.le_of_ble_eq_true rfl)) dX11_wantedOf_61 ⟨Nat.le_of_ble_eq_true rfl, Nat.le_of_ble_eq_true rfl⟩) (fun r_19 u H locs hw_20 hP hD hS => ?_)
        obtain ⟨ws_21, rfl⟩ : ∃ z, z = u := ⟨_, rfl⟩
        obtain ⟨hT, rfl⟩ := hw_20
        obtain ⟨hP, hD⟩ := ty_shPD (w2 := ([(rf_MO mo mw ma mf m0 m1 mu mv u0 u1 iz th mb mn mpt mbg mwr mwk mlf men), (rf_RW ct 0 mw 958 f)] ++ ws_21)) hP hD rfl
        refine lv_isub hx hb dX11_wantedOf_64 ?_
        refine lv_sipush (v := 1000) hx hb dX11_wantedOf_65 (by decide) ?_
        refine lv_imul hx hb dX11_wantedOf_68 ?_
        refine lv_aload_n hx hb dX11_wantedOf_69 rfl (lv_at hl 1 rfl) ?_
        refine lv_iload_n hx hb dX11_wantedOf_70 rfl (lv_at hl 2 rfl) ?_
        refine lv_bipush (v := 13) hx hb dX11_wantedOf_71 (by decide) ?_
        obtain ⟨hP, hD⟩ := ty_ipPD (E1 := []) (E2 := [(rf_MO mo mw ma mf m0 m1 mu mv u0 u1 iz th mb mn mpt mbg mwr mwk mlf men), (rf_RW ct 0 mw 958 f)]) hP hD rfl ty_mva
        refine ty_Ki hP hD hS hA (va_runV (As := [.int p1, .int 13]) (rest := [.int ((((rf_st3 f p1 1) - r_13) - (rf_of f p1 8)) * 1000)]) ⟨hx, hb, hml, hown, hts⟩ (m_of_13 l D ct S ws_21 ph xx mo mw ma mf m0 m1 mu mv u0 u1 iz mb th mn mpt mbg mwr mwk mlf men f G cx p1 _ hT hph hy1 hR hc) (cm_V 2 hts kc_X11_of ki_RX11 kl_RX11_209 kv_X11_of kx_X11_of kd_X11_of ⟨Nat.le_of_ble_eq_true rfl, Nat.le_of_ble_eq_true rfl⟩) (ty_preE (ci := 11) (q0 := 0) hP hK hD hS hA hX rfl rfl) rfl rfl hl.1 rfl (lv_room (Nat.le_of_ble_eq_true rfl)) dX11_wantedOf_73 ⟨Nat.le_of_ble_eq_true rfl, Nat.le_of_ble_eq_true rfl⟩) (fun r_22 u H locs hw_23 hP hD hS => ?_)
        obtain ⟨ws_24, rfl⟩ : ∃ z, z = u := ⟨_, rfl⟩
        obtain ⟨hT, rfl⟩ := hw_23
        obtain ⟨hP, hD⟩ := ty_shPD (w2 := ([(rf_MO mo mw ma mf m0 m1 mu mv u0 u1 iz th mb mn mpt mbg mwr mwk mlf men), (rf_RW ct 0 mw 958 f)] ++ ws_24)) hP hD rfl
        refine lv_idiv hx hb dX11_wantedOf_76 (rf_nz (rf_stat hR hc).2.1.1) ?_
        refine lv_istore_n (lv' := [(3, .int (((((rf_st3 f p1 1) - r_13) - (rf_of f p1 8)) * 1000) / (rf_of f p1 13))), (2, .int (rf_st3 f p1 0)), (0, .ref mo), (1, .int p1)]) hx hb dX11_wantedOf_77 rfl hl (by decide) rfl (fun ls hl => ?_)
        refine lv_iconst (v := 0) hx hb dX11_wantedOf_78 (by decide) ?_
        refine lv_sipush (v := 5000) hx hb dX11_wantedOf_79 (by decide) ?_
        refine lv_iload_n hx hb dX11_wantedOf_82 rfl (lv_at hl 0 rfl) ?_
        refine va_mmin hx hb (hml.trans hl.1.symm) hown (hts _ kl_RX11_184) (hts _ jm_min_s) (hts _ ki_RJ9) (hts _ jm_min_c) (Nat.le_of_ble_eq_true rfl) (Nat.le_of_ble_eq_true rfl) (Nat.le_of_ble_eq_true rfl) (Nat.le_of_ble_eq_true rfl) dX11_wantedOf_83 ?_
        refine va_mmax hx hb (hml.trans hl.1.symm) hown (hts _ kl_RX11_225) (hts _ jm_max_s) (hts _ ki_RJ9) (hts _ jm_max_c) (Nat.le_of_ble_eq_true rfl) (Nat.le_of_ble_eq_true rfl) (Nat.le_of_ble_eq_true rfl) (Nat.le_of_ble_eq_true rfl) dX11_wantedOf_86 ?_
        exact W.iret (v := (if 0 < (if (((((rf_st3 f p1 1) - r_13) - (rf_of f p1 8)) * 1000) / (rf_of f p1 13)) < 5000 then (((((rf_st3 f p1 1) - r_13) - (rf_of f p1 8)) * 1000) / (rf_of f p1 13)) else 5000) then (if (((((rf_st3 f p1 1) - r_13) - (rf_of f p1 8)) * 1000) / (rf_of f p1 13)) < 5000 then (((((rf_st3 f p1 1) - r_13) - (rf_of f p1 8)) * 1000) / (rf_of f p1 13)) else 5000) else 0)) hx hb hr (fun t ht hW => ⟨⟨(if 0 < (if (((((rf_st3 f p1 1) - r_13) - (rf_of f p1 8)) * 1000) / (rf_of f p1 13)) < 5000 then (((((rf_st3 f p1 1) - r_13) - (rf_of f p1 8)) * 1000) / (rf_of f p1 13)) else 5000) then (if (((((rf_st3 f p1 1) - r_13) - (rf_of f p1 8)) * 1000) / (rf_of f p1 13)) < 5000 then (((((rf_st3 f p1 1) - r_13) - (rf_of f p1 8)) * 1000) / (rf_of f p1 13)) else 5000) else 0), ws_24, rfl, ⟨hT, ⟨(Or.inl ⟨hc_4, (Or.inl ⟨hc_5, (Or.inl ⟨hc_6, ⟨r_13, hp_16, rfl⟩⟩)⟩)⟩), (by have := @rf_mm (((((rf_st3 f p1 1) - r_13) - (rf_of f p1 8)) * 1000) / (rf_of f p1 13)); omega)⟩⟩, by rw [ht]; exact hP, by rw [hAe]; exact hD⟩, hS.F ht⟩) hS.2.2 dX11_wantedOf_89
      · refine lv_aload_n hx hb dX11_wantedOf_30 rfl (lv_at hl 1 rfl) ?_
        refine lv_iload_n hx hb dX11_wantedOf_31 rfl (lv_at hl 2 rfl) ?_
        refine lv_iconst (v := 1) hx hb dX11_wantedOf_32 (by decide) ?_
        obtain ⟨hP, hD⟩ := ty_ipPD (E1 := []) (E2 := [(rf_MO mo mw ma mf m0 m1 mu mv u0 u1 iz th mb mn mpt mbg mwr mwk mlf men), (rf_RW ct 0 mw 958 f)]) hP hD rfl ty_mva
        refine ty_Ki hP hD hS hA (va_runV (As := [.int p1, .int 1]) (rest := []) ⟨hx, hb, hml, hown, hts⟩ (m_step_1 l D ct S ws_3 ph xx mo mw ma mf m0 m1 mu mv u0 u1 iz mb th mn mpt mbg mwr mwk mlf men f G cx p1 _ hT hph hy1 hR hc ho) (cm_V 2 hts kc_X11_step ki_RX11 kl_RX11_228 kv_X11_step kx_X11_step kd_X11_step ⟨Nat.le_of_ble_eq_true rfl, Nat.le_of_ble_eq_true rfl⟩) (ty_preE (ci := 11) (q0 := 0) hP hK hD hS hA hX rfl rfl) rfl rfl hl.1 rfl (lv_room (Nat.le_of_ble_eq_true rfl)) dX11_wantedOf_33 ⟨Nat.le_of_ble_eq_true rfl, Nat.le_of_ble_eq_true rfl⟩) (fun r_25 u H locs hw_26 hP hD hS => ?_)
        obtain ⟨ws_27, rfl⟩ : ∃ z, z = u := ⟨_, rfl⟩
        obtain ⟨hT, rfl⟩ := hw_26
        obtain ⟨hP, hD⟩ := ty_shPD (w2 := ([(rf_MO mo mw ma mf m0 m1 mu mv u0 u1 iz th mb mn mpt mbg mwr mwk mlf men), (rf_RW ct 0 mw 958 f)] ++ ws_27)) hP hD rfl
        refine lv_ineg hx hb dX11_wantedOf_36 ?_
        exact W.iret (v := (- (rf_st3 f p1 1))) hx hb hr (fun t ht hW => ⟨⟨(- (rf_st3 f p1 1)), ws_27, rfl, ⟨hT, ⟨(Or.inl ⟨hc_4, (Or.inl ⟨hc_5, (Or.inr ⟨hc_6, rfl⟩)⟩)⟩), (rf_neg (rf_stb hR ho (by omega)))⟩⟩, by rw [ht]; exact hP, by rw [hAe]; exact hD⟩, hS.F ht⟩) hS.2.2 dX11_wantedOf_37
    · refine lv_iconst (v := 0) hx hb dX11_wantedOf_23 (by decide) ?_
      exact W.iret (v := 0) hx hb hr (fun t ht hW => ⟨⟨0, ws_3, rfl, ⟨hT, ⟨(Or.inl ⟨hc_4, (Or.inr ⟨hc_5, rfl⟩)⟩), (by decide)⟩⟩, by rw [ht]; exact hP, by rw [hAe]; exact hD⟩, hS.F ht⟩) hS.2.2 dX11_wantedOf_24
  · refine lv_aload_n hx hb dX11_wantedOf_11 rfl (lv_at hl 1 rfl) ?_
    refine lv_iload_n hx hb dX11_wantedOf_12 rfl (lv_at hl 2 rfl) ?_
    refine lv_iconst (v := 1) hx hb dX11_wantedOf_13 (by decide) ?_
    obtain ⟨hP, hD⟩ := ty_ipPD (E1 := []) (E2 := [(rf_MO mo mw ma mf m0 m1 mu mv u0 u1 iz th mb mn mpt mbg mwr mwk mlf men), (rf_RW ct 0 mw 958 f)]) hP hD rfl ty_mva
    refine ty_Ki hP hD hS hA (va_runV (As := [.int p1, .int 1]) (rest := []) ⟨hx, hb, hml, hown, hts⟩ (m_step_1 l D ct S ws_3 ph xx mo mw ma mf m0 m1 mu mv u0 u1 iz mb th mn mpt mbg mwr mwk mlf men f G cx p1 _ hT hph hy1 hR hc ho) (cm_V 2 hts kc_X11_step ki_RX11 kl_RX11_228 kv_X11_step kx_X11_step kd_X11_step ⟨Nat.le_of_ble_eq_true rfl, Nat.le_of_ble_eq_true rfl⟩) (ty_preE (ci := 11) (q0 := 0) hP hK hD hS hA hX rfl rfl) rfl rfl hl.1 rfl (lv_room (Nat.le_of_ble_eq_true rfl)) dX11_wantedOf_14 ⟨Nat.le_of_ble_eq_true rfl, Nat.le_of_ble_eq_true rfl⟩) (fun r_28 u H locs hw_29 hP hD hS => ?_)
    obtain ⟨ws_30, rfl⟩ : ∃ z, z = u := ⟨_, rfl⟩
    obtain ⟨hT, rfl⟩ := hw_29
    obtain ⟨hP, hD⟩ := ty_shPD (w2 := ([(rf_MO mo mw ma mf m0 m1 mu mv u0 u1 iz th mb mn mpt mbg mwr mwk mlf men), (rf_RW ct 0 mw 958 f)] ++ ws_30)) hP hD rfl
    exact W.iret (v := (rf_st3 f p1 1)) hx hb hr (fun t ht hW => ⟨⟨(rf_st3 f p1 1), ws_30, rfl, ⟨hT, ⟨(Or.inr ⟨hc_4, rfl⟩), (by have := rf_stb hR ho (w := 1) (by omega); omega)⟩⟩, by rw [ht]; exact hP, by rw [hAe]; exact hD⟩, hS.F ht⟩) hS.2.2 dX11_wantedOf_17
def q_X11_currentOf (f : Nat → Int32) (p1 : Int32) (r : Int32) : Prop := (((rf_of f p1 0) = (1 : Int32) ∧ (∃ (r_5 : Int32), (q_X11_wantedOf f p1 r_5) ∧ (((f 16) = (0 : Int32) ∧ (r = (if r_5 < (- (rf_of f p1 6)) then (- (rf_of f p1 6)) else r_5))) ∨ (¬ (f 16) = (0 : Int32) ∧ (((rf_of f p1 9) ≤ ((f 6) - (f 16)) ∧ (r = (if r_5 < (- (rf_of f p1 6)) then (- (rf_of f p1 6)) else r_5))) ∨ (¬ (rf_of f p1 9) ≤ ((f 6) - (f 16)) ∧ (r = (if ((r_5 * (if 0 < ((f 6) - (rf_of f p1 9)) then ((f 6) - (rf_of f p1 9)) else 0)) / (f 16)) < (- (rf_of f p1 6)) then (- (rf_of f p1 6)) else ((r_5 * (if 0 < ((f 6) - (rf_of f p1 9)) then ((f 6) - (rf_of f p1 9)) else 0)) / (f 16)))))))))) ∨ (¬ (rf_of f p1 0) = (1 : Int32) ∧ (r = 0)))
set_option maxRecDepth 100000 in
set_option maxHeartbeats 4000000 in
theorem m_X11_currentOf (l : Launch) (D : va_G) (ct : Nat → ClassId) (S : ty_S) (ws : va_W) (ph : va_W → Prop) (xx : Nat → Nat → Nat → Prop) (mo : Nat) (mw : Nat) (ma : Nat) (mf : Nat) (m0 : Nat) (m1 : Nat) (mu : Nat) (mv : Nat) (u0 : Nat) (u1 : Nat) (iz : Nat) (mb : Nat) (th : Int32) (mn : Int32) (mpt : Int32) (mbg : Int32) (mwr : Int32) (mwk : Int32) (mlf : Int32) (men : Int32) (f : Nat → Int32) (G : Nat → Int32) (p1 : Int32) (sz : Nat) (hT : ty_V ct S ph ws) (hph : ty_C ph xx) (hy1 : ty_y1 xx) (hR : rf_R G (-1) f) (hc : 0 ≤ p1.toInt ∧ p1.toInt < (G 9).toInt) : Met l yX11_currentOf (ws_ yX11_currentOf cX11_currentOf 3 (some .int)) ({ frames := 3, cells := 0, slots := 0, locals := 76 } : Room) (va_Pc [.ref mo, .int p1] (cmP D ct sz ([(rf_MO mo mw ma mf m0 m1 mu mv u0 u1 iz th mb mn mpt mbg mwr mwk mlf men), (rf_RW ct 0 mw 958 f)] ++ ws))) (va_Qi (fun (r : Int32) (u9 : va_W) => ty_V ct S ph u9 ∧ (q_X11_currentOf f p1 r) ∧ -((rf_of f p1 6).toInt) ≤ r.toInt ∧ r.toInt ≤ 5000) (cmB D ([(rf_MO mo mw ma mf m0 m1 mu mv u0 u1 iz th mb mn mpt mbg mwr mwk mlf men), (rf_RW ct 0 mw 958 f)] ++ ws) sz (fun (u9 : va_W) => ([(rf_MO mo mw ma mf m0 m1 mu mv u0 u1 iz th mb mn mpt mbg mwr mwk mlf men), (rf_RW ct 0 mw 958 f)] ++ u9))) (va_A ([(rf_MO mo mw ma mf m0 m1 mu mv u0 u1 iz th mb mn mpt mbg mwr mwk mlf men), (rf_RW ct 0 mw 958 f)] ++ ws) sz)) 0 0 (va_A ([(rf_MO mo mw ma mf m0 m1 mu mv u0 u1 iz th mb mn mpt mbg mwr mwk mlf men), (rf_RW ct 0 mw 958 f)] ++ ws) sz) := by
  refine Met.ofW (cc := cX11_currentOf) (maxL := 3) (ret := (some .int)) (by decide) rfl ?_
  intro p e s m args below meth c s₁ B hml hv
  obtain ⟨rfl, hsz, hP, hK, hD0, hX⟩ := hv
  have hx := B.exec
  have hb := B.bytes
  have hr := B.returns
  have hts := ws_all (atoms_spec (ws := ws_ yX11_currentOf cX11_currentOf 3 (some .int)) B.pre)
  have hown : s.vm.findClass RX11 = some m.cls := findClass_of_methodNamed B.named
  have hlocks := B.notSynchronized
  subst hsz
  have hD := hD0.self (sz := s.heap.size)
  generalize hAe : va_A ([(rf_MO mo mw ma mf m0 m1 mu mv u0 u1 iz th mb mn mpt mbg mwr mwk mlf men), (rf_RW ct 0 mw 958 f)] ++ ws) s.heap.size = A at hD hX ⊢
  have hA : ∀ q : Nat, s.heap.size ≤ q → A q := fun q h => by rw [← hAe]; exact Or.inr h
  have hS : va_S A s.heap s.heap [] := va_S.rf
  have hl := lv_entry ([.ref mo, .int p1]) (n := 3) (Nat.le_of_ble_eq_true rfl)
  rw [lg_entry_eq]
  generalize (lg_sl ([.ref mo, .int p1]) ++ List.replicate (3 - (lg_sl ([.ref mo, .int p1])).length) Slot.unset).toArray = ls at hl ⊢
  have hl : lv_has ls 3 [(0, .ref mo), (1, .int p1)] := hl
  refine lv_aload_n hx hb dX11_currentOf_0 rfl (lv_at hl 0 rfl) ?_
  refine lv_iload_n hx hb dX11_currentOf_1 rfl (lv_at hl 1 rfl) ?_
  refine lv_iconst (v := 0) hx hb dX11_currentOf_2 (by decide) ?_
  obtain ⟨hP, hD⟩ := ty_ipPD (E1 := []) (E2 := [(rf_MO mo mw ma mf m0 m1 mu mv u0 u1 iz th mb mn mpt mbg mwr mwk mlf men), (rf_RW ct 0 mw 958 f)]) hP hD rfl ty_mva
  refine ty_Ki hP hD hS hA (va_runV (As := [.int p1, .int 0]) (rest := []) ⟨hx, hb, hml, hown, hts⟩ (m_of_0 l D ct S ws ph xx mo mw ma mf m0 m1 mu mv u0 u1 iz mb th mn mpt mbg mwr mwk mlf men f G (-1) p1 _ hT hph hy1 hR hc) (cm_V 2 hts kc_X11_of ki_RX11 kl_RX11_209 kv_X11_of kx_X11_of kd_X11_of ⟨Nat.le_of_ble_eq_true rfl, Nat.le_of_ble_eq_true rfl⟩) (ty_preE (ci := 11) (q0 := 0) hP hK hD hS hA hX rfl rfl) rfl rfl hl.1 rfl (lv_room (Nat.le_of_ble_eq_true rfl)) dX11_currentOf_3 ⟨Nat.le_of_ble_eq_true rfl, Nat.le_of_ble_eq_true rfl⟩) (fun r_1 u H locs hw_2 hP hD hS => ?_)
  obtain ⟨ws_3, rfl⟩ : ∃ z, z = u := ⟨_, rfl⟩
  obtain ⟨hT, rfl⟩ := hw_2
  obtain ⟨hP, hD⟩ := ty_shPD (w2 := ([(rf_MO mo mw ma mf m0 m1 mu mv u0 u1 iz th mb mn mpt mbg mwr mwk mlf men), (rf_RW ct 0 mw 958 f)] ++ ws_3)) hP hD rfl
  refine lv_iconst (v := 1) hx hb dX11_currentOf_6 (by decide) ?_
  refine lv_icmp_eq (tgt := 12) hx hb dX11_currentOf_7 (by decide) (fun hc_4 => ?_) (fun hc_4 => ?_)
  · refine lv_aload_n hx hb dX11_currentOf_12 rfl (lv_at hl 0 rfl) ?_
    refine lv_iload_n hx hb dX11_currentOf_13 rfl (lv_at hl 1 rfl) ?_
    obtain ⟨hP, hD⟩ := ty_ipPD (E1 := []) (E2 := [(rf_MO mo mw ma mf m0 m1 mu mv u0 u1 iz th mb mn mpt mbg mwr mwk mlf men), (rf_RW ct 0 mw 958 f)]) hP hD rfl ty_mva
    refine ty_Ki hP hD hS hA (va_runV (As := [.int p1]) (rest := []) ⟨hx, hb, hml, hown, hts⟩ (m_X11_wantedOf l D ct S ws_3 ph xx mo mw ma mf m0 m1 mu mv u0 u1 iz mb th mn mpt mbg mwr mwk mlf men f G (-1) p1 _ hT hph hy1 hR hc (rf_onr hR hc (Or.inl hc_4))) (cm_V 1 hts kc_X11_wantedOf ki_RX11 kl_RX11_222 kv_X11_wantedOf kx_X11_wantedOf kd_X11_wantedOf ⟨Nat.le_of_ble_eq_true rfl, Nat.le_of_ble_eq_true rfl⟩) (ty_preE (ci := 11) (q0 := 0) hP hK hD hS hA hX rfl rfl) rfl rfl hl.1 rfl (lv_room (Nat.le_of_ble_eq_true rfl)) dX11_currentOf_14 ⟨Nat.le_of_ble_eq_true rfl, Nat.le_of_ble_eq_true rfl⟩) (fun r_5 u H locs hw_6 hP hD hS => ?_)
    obtain ⟨ws_7, rfl⟩ : ∃ z, z = u := ⟨_, rfl⟩
    obtain ⟨hT, hp_8⟩ := hw_6
    have hp_8 : (q_X11_wantedOf f p1 r_5) ∧ -5000 ≤ r_5.toInt ∧ r_5.toInt ≤ 5000 := hp_8
    obtain ⟨hq_9, hp_10⟩ := hp_8
    obtain ⟨hP, hD⟩ := ty_shPD (w2 := ([(rf_MO mo mw ma mf m0 m1 mu mv u0 u1 iz th mb mn mpt mbg mwr mwk mlf men), (rf_RW ct 0 mw 958 f)] ++ ws_7)) hP hD rfl
    refine lv_istore_n (lv' := [(2, .int r_5), (0, .ref mo), (1, .int p1)]) hx hb dX11_currentOf_17 rfl hl (by decide) rfl (fun ls hl => ?_)
    refine lv_aload_n hx hb dX11_currentOf_18 rfl (lv_at hl 1 rfl) ?_
    refine va_get (v := .ref mw) (D := D) (ci := 11) (C := RX11) (T := TX11) (N := 19) hx hb hts in_X11 hown hK hP 0 rfl rfl 0 (by decide) (hts _ kl_RX11_9) (fun _ h9 => h9) rfl dX11_currentOf_19 ?_
    refine lv_bipush (v := 16) hx hb dX11_currentOf_22 (by decide) ?_
    refine va_iald hx hb hK hP 1 0 rfl rfl (cm_vin (by decide)) dX11_currentOf_24 ?_
    refine cm_cst (y := (f 16)) (by first | rfl | decide +kernel) ?_
    refine lv_if_eq (tgt := 83) hx hb dX11_currentOf_25 (by decide) (fun hc_11 => ?_) (fun hc_11 => ?_)
    · refine lv_iload_n hx hb dX11_currentOf_83 rfl (lv_at hl 0 rfl) ?_
      refine lv_aload_n hx hb dX11_currentOf_84 rfl (lv_at hl 1 rfl) ?_
      refine lv_iload_n hx hb dX11_currentOf_85 rfl (lv_at hl 2 rfl) ?_
      refine lv_bipush (v := 6) hx hb dX11_currentOf_86 (by decide) ?_
      obtain ⟨hP, hD⟩ := ty_ipPD (E1 := []) (E2 := [(rf_MO mo mw ma mf m0 m1 mu mv u0 u1 iz th mb mn mpt mbg mwr mwk mlf men), (rf_RW ct 0 mw 958 f)]) hP hD rfl ty_mva
      refine ty_Ki hP hD hS hA (va_runV (As := [.int p1, .int 6]) (rest := [.int r_5]) ⟨hx, hb, hml, hown, hts⟩ (m_of_6 l D ct S ws_7 ph xx mo mw ma mf m0 m1 mu mv u0 u1 iz mb th mn mpt mbg mwr mwk mlf men f G (-1) p1 _ hT hph hy1 hR hc) (cm_V 2 hts kc_X11_of ki_RX11 kl_RX11_209 kv_X11_of kx_X11_of kd_X11_of ⟨Nat.le_of_ble_eq_true rfl, Nat.le_of_ble_eq_true rfl⟩) (ty_preE (ci := 11) (q0 := 0) hP hK hD hS hA hX rfl rfl) rfl rfl hl.1 rfl (lv_room (Nat.le_of_ble_eq_true rfl)) dX11_currentOf_88 ⟨Nat.le_of_ble_eq_true rfl, Nat.le_of_ble_eq_true rfl⟩) (fun r_12 u H locs hw_13 hP hD hS => ?_)
      obtain ⟨ws_14, rfl⟩ : ∃ z, z = u := ⟨_, rfl⟩
      obtain ⟨hT, rfl⟩ := hw_13
      obtain ⟨hP, hD⟩ := ty_shPD (w2 := ([(rf_MO mo mw ma mf m0 m1 mu mv u0 u1 iz th mb mn mpt mbg mwr mwk mlf men), (rf_RW ct 0 mw 958 f)] ++ ws_14)) hP hD rfl
      refine lv_ineg hx hb dX11_currentOf_91 ?_
      refine va_mmax hx hb (hml.trans hl.1.symm) hown (hts _ kl_RX11_225) (hts _ jm_max_s) (hts _ ki_RJ9) (hts _ jm_max_c) (Nat.le_of_ble_eq_true rfl) (Nat.le_of_ble_eq_true rfl) (Nat.le_of_ble_eq_true rfl) (Nat.le_of_ble_eq_true rfl) dX11_currentOf_92 ?_
      exact W.iret (v := (if r_5 < (- (rf_of f p1 6)) then (- (rf_of f p1 6)) else r_5)) hx hb hr (fun t ht hW => ⟨⟨(if r_5 < (- (rf_of f p1 6)) then (- (rf_of f p1 6)) else r_5), ws_14, rfl, ⟨hT, ⟨(Or.inl ⟨hc_4, ⟨r_5, hq_9, (Or.inl ⟨hc_11, rfl⟩)⟩⟩), (rf_mxq hp_10.2 (rf_qp hR hc).1.1.1)⟩⟩, by rw [ht]; exact hP, by rw [hAe]; exact hD⟩, hS.F ht⟩) hS.2.2 dX11_currentOf_95
    · refine lv_aload_n hx hb dX11_currentOf_28 rfl (lv_at hl 1 rfl) ?_
      refine lv_iload_n hx hb dX11_currentOf_29 rfl (lv_at hl 2 rfl) ?_
      refine lv_bipush (v := 9) hx hb dX11_currentOf_30 (by decide) ?_
      obtain ⟨hP, hD⟩ := ty_ipPD (E1 := []) (E2 := [(rf_MO mo mw ma mf m0 m1 mu mv u0 u1 iz th mb mn mpt mbg mwr mwk mlf men), (rf_RW ct 0 mw 958 f)]) hP hD rfl ty_mva
      refine ty_Ki hP hD hS hA (va_runV (As := [.int p1, .int 9]) (rest := []) ⟨hx, hb, hml, hown, hts⟩ (m_of_9 l D ct S ws_7 ph xx mo mw ma mf m0 m1 mu mv u0 u1 iz mb th mn mpt mbg mwr mwk mlf men f G (-1) p1 _ hT hph hy1 hR hc) (cm_V 2 hts kc_X11_of ki_RX11 kl_RX11_209 kv_X11_of kx_X11_of kd_X11_of ⟨Nat.le_of_ble_eq_true rfl, Nat.le_of_ble_eq_true rfl⟩) (ty_preE (ci := 11) (q0 := 0) hP hK hD hS hA hX rfl rfl) rfl rfl hl.1 rfl (lv_room (Nat.le_of_ble_eq_true rfl)) dX11_currentOf_32 ⟨Nat.le_of_ble_eq_true rfl, Nat.le_of_ble_eq_true rfl⟩) (fun r_15 u H locs hw_16 hP hD hS => ?_)
      obtain ⟨ws_17, rfl⟩ : ∃ z, z = u := ⟨_, rfl⟩
      obtain ⟨hT, rfl⟩ := hw_16
      obtain ⟨hP, hD⟩ := ty_shPD (w2 := ([(rf_MO mo mw ma mf m0 m1 mu mv u0 u1 iz th mb mn mpt mbg mwr mwk mlf men), (rf_RW ct 0 mw 958 f)] ++ ws_17)) hP hD rfl
      refine lv_aload_n hx hb dX11_currentOf_35 rfl (lv_at hl 1 rfl) ?_
      refine va_get (v := .ref mw) (D := D) (ci := 11) (C := RX11) (T := TX11) (N := 19) hx hb hts in_X11 hown hK hP 0 rfl rfl 0 (by decide) (hts _ kl_RX11_9) (fun _ h9 => h9) rfl dX11_currentOf_36 ?_
      refine lv_bipush (v := 6) hx hb dX11_currentOf_39 (by decide) ?_
      refine va_iald hx hb hK hP 1 0 rfl rfl (cm_vin (by decide)) dX11_currentOf_41 ?_
      refine cm_cst (y := (f 6)) (by first | rfl | decide +kernel) ?_
      refine lv_aload_n hx hb dX11_currentOf_42 rfl (lv_at hl 1 rfl) ?_
      refine va_get (v := .ref mw) (D := D) (ci := 11) (C := RX11) (T := TX11) (N := 19) hx hb hts in_X11 hown hK hP 0 rfl rfl 0 (by decide) (hts _ kl_RX11_9) (fun _ h9 => h9) rfl dX11_currentOf_43 ?_
      refine lv_bipush (v := 16) hx hb dX11_currentOf_46 (by decide) ?_
      refine va_iald hx hb hK hP 1 0 rfl rfl (cm_vin (by decide)) dX11_currentOf_48 ?_
      refine cm_cst (y := (f 16)) (by first | rfl | decide +kernel) ?_
      refine lv_isub hx hb dX11_currentOf_49 ?_
      refine lv_icmp_le (tgt := 83) hx hb dX11_currentOf_50 (by decide) (fun hc_18 => ?_) (fun hc_18 => ?_)
      · refine lv_iload_n hx hb dX11_currentOf_83 rfl (lv_at hl 0 rfl) ?_
        refine lv_aload_n hx hb dX11_currentOf_84 rfl (lv_at hl 1 rfl) ?_
        refine lv_iload_n hx hb dX11_currentOf_85 rfl (lv_at hl 2 rfl) ?_
        refine lv_bipush (v := 6) hx hb dX11_currentOf_86 (by decide) ?_
        obtain ⟨hP, hD⟩ := ty_ipPD (E1 := []) (E2 := [(rf_MO mo mw ma mf m0 m1 mu mv u0 u1 iz th mb mn mpt mbg mwr mwk mlf men), (rf_RW ct 0 mw 958 f)]) hP hD rfl ty_mva
        refine ty_Ki hP hD hS hA (va_runV (As := [.int p1, .int 6]) (rest := [.int r_5]) ⟨hx, hb, hml, hown, hts⟩ (m_of_6 l D ct S ws_17 ph xx mo mw ma mf m0 m1 mu mv u0 u1 iz mb th mn mpt mbg mwr mwk mlf men f G (-1) p1 _ hT hph hy1 hR hc) (cm_V 2 hts kc_X11_of ki_RX11 kl_RX11_209 kv_X11_of kx_X11_of kd_X11_of ⟨Nat.le_of_ble_eq_true rfl, Nat.le_of_ble_eq_true rfl⟩) (ty_preE (ci := 11) (q0 := 0) hP hK hD hS hA hX rfl rfl) rfl rfl hl.1 rfl (lv_room (Nat.le_of_ble_eq_true rfl)) dX11_currentOf_88 ⟨Nat.le_of_ble_eq_true rfl, Nat.le_of_ble_eq_true rfl⟩) (fun r_19 u H locs hw_20 hP hD hS => ?_)
        obtain ⟨ws_21, rfl⟩ : ∃ z, z = u := ⟨_, rfl⟩
        obtain ⟨hT, rfl⟩ := hw_20
        obtain ⟨hP, hD⟩ := ty_shPD (w2 := ([(rf_MO mo mw ma mf m0 m1 mu mv u0 u1 iz th mb mn mpt mbg mwr mwk mlf men), (rf_RW ct 0 mw 958 f)] ++ ws_21)) hP hD rfl
        refine lv_ineg hx hb dX11_currentOf_91 ?_
        refine va_mmax hx hb (hml.trans hl.1.symm) hown (hts _ kl_RX11_225) (hts _ jm_max_s) (hts _ ki_RJ9) (hts _ jm_max_c) (Nat.le_of_ble_eq_true rfl) (Nat.le_of_ble_eq_true rfl) (Nat.le_of_ble_eq_true rfl) (Nat.le_of_ble_eq_true rfl) dX11_currentOf_92 ?_
        exact W.iret (v := (if r_5 < (- (rf_of f p1 6)) then (- (rf_of f p1 6)) else r_5)) hx hb hr (fun t ht hW => ⟨⟨(if r_5 < (- (rf_of f p1 6)) then (- (rf_of f p1 6)) else r_5), ws_21, rfl, ⟨hT, ⟨(Or.inl ⟨hc_4, ⟨r_5, hq_9, (Or.inr ⟨hc_11, (Or.inl ⟨hc_18, rfl⟩)⟩)⟩⟩), (rf_mxq hp_10.2 (rf_qp hR hc).1.1.1)⟩⟩, by rw [ht]; exact hP, by rw [hAe]; exact hD⟩, hS.F ht⟩) hS.2.2 dX11_currentOf_95
      · refine lv_iload_n hx hb dX11_currentOf_53 rfl (lv_at hl 0 rfl) ?_
        refine lv_iconst (v := 0) hx hb dX11_currentOf_54 (by decide) ?_
        refine lv_aload_n hx hb dX11_currentOf_55 rfl (lv_at hl 1 rfl) ?_
        refine va_get (v := .ref mw) (D := D) (ci := 11) (C := RX11) (T := TX11) (N := 19) hx hb hts in_X11 hown hK hP 0 rfl rfl 0 (by decide) (hts _ kl_RX11_9) (fun _ h9 => h9) rfl dX11_currentOf_56 ?_
        refine lv_bipush (v := 6) hx hb dX11_currentOf_59 (by decide) ?_
        refine va_iald hx hb hK hP 1 0 rfl rfl (cm_vin (by decide)) dX11_currentOf_61 ?_
        refine cm_cst (y := (f 6)) (by first | rfl | decide +kernel) ?_
        refine lv_aload_n hx hb dX11_currentOf_62 rfl (lv_at hl 1 rfl) ?_
        refine lv_iload_n hx hb dX11_currentOf_63 rfl (lv_at hl 2 rfl) ?_
        refine lv_bipush (v := 9) hx hb dX11_currentOf_64 (by decide) ?_
        obtain ⟨hP, hD⟩ := ty_ipPD (E1 := []) (E2 := [(rf_MO mo mw ma mf m0 m1 mu mv u0 u1 iz th mb mn mpt mbg mwr mwk mlf men), (rf_RW ct 0 mw 958 f)]) hP hD rfl ty_mva
        refine ty_Ki hP hD hS hA (va_runV (As := [.int p1, .int 9]) (rest := [.int (f 6), .int 0, .int r_5]) ⟨hx, hb, hml, hown, hts⟩ (m_of_9 l D ct S ws_17 ph xx mo mw ma mf m0 m1 mu mv u0 u1 iz mb th mn mpt mbg mwr mwk mlf men f G (-1) p1 _ hT hph hy1 hR hc) (cm_V 2 hts kc_X11_of ki_RX11 kl_RX11_209 kv_X11_of kx_X11_of kd_X11_of ⟨Nat.le_of_ble_eq_true rfl, Nat.le_of_ble_eq_true rfl⟩) (ty_preE (ci := 11) (q0 := 0) hP hK hD hS hA hX rfl rfl) rfl rfl hl.1 rfl (lv_room (Nat.le_of_ble_eq_true rfl)) dX11_currentOf_66 ⟨Nat.le_of_ble_eq_true rfl, Nat.le_of_ble_eq_true rfl⟩) (fun r_22 u H locs hw_23 hP hD hS => ?_)
        obtain ⟨ws_24, rfl⟩ : ∃ z, z = u := ⟨_, rfl⟩
        obtain ⟨hT, rfl⟩ := hw_23
        obtain ⟨hP, hD⟩ := ty_shPD (w2 := ([(rf_MO mo mw ma mf m0 m1 mu mv u0 u1 iz th mb mn mpt mbg mwr mwk mlf men), (rf_RW ct 0 mw 958 f)] ++ ws_24)) hP hD rfl
        refine lv_isub hx hb dX11_currentOf_69 ?_
        refine va_mmax hx hb (hml.trans hl.1.symm) hown (hts _ kl_RX11_225) (hts _ jm_max_s) (hts _ ki_RJ9) (hts _ jm_max_c) (Nat.le_of_ble_eq_true rfl) (Nat.le_of_ble_eq_true rfl) (Nat.le_of_ble_eq_true rfl) (Nat.le_of_ble_eq_true rfl) dX11_currentOf_70 ?_
        refine lv_imul hx hb dX11_currentOf_73 ?_
        refine lv_aload_n hx hb dX11_currentOf_74 rfl (lv_at hl 1 rfl) ?_
        refine va_get (v := .ref mw) (D := D) (ci := 11) (C := RX11) (T := TX11) (N := 19) hx hb hts in_X11 hown hK hP 0 rfl rfl 0 (by decide) (hts _ kl_RX11_9) (fun _ h9 => h9) rfl dX11_currentOf_75 ?_
        refine lv_bipush (v := 16) hx hb dX11_currentOf_78 (by decide) ?_
        refine va_iald hx hb hK hP 1 0 rfl rfl (cm_vin (by decide)) dX11_currentOf_80 ?_
        refine cm_cst (y := (f 16)) (by first | rfl | decide +kernel) ?_
        refine lv_idiv hx hb dX11_currentOf_81 hc_11 ?_
        refine lv_istore_n (lv' := [(2, .int ((r_5 * (if 0 < ((f 6) - (rf_of f p1 9)) then ((f 6) - (rf_of f p1 9)) else 0)) / (f 16))), (0, .ref mo), (1, .int p1)]) hx hb dX11_currentOf_82 rfl hl (by decide) rfl (fun ls hl => ?_)
        refine lv_iload_n hx hb dX11_currentOf_83 rfl (lv_at hl 0 rfl) ?_
        refine lv_aload_n hx hb dX11_currentOf_84 rfl (lv_at hl 1 rfl) ?_
        refine lv_iload_n hx hb dX11_currentOf_85 rfl (lv_at hl 2 rfl) ?_
        refine lv_bipush (v := 6) hx hb dX11_currentOf_86 (by decide) ?_
        obtain ⟨hP, hD⟩ := ty_ipPD (E1 := []) (E2 := [(rf_MO mo mw ma mf m0 m1 mu mv u0 u1 iz th mb mn mpt mbg mwr mwk mlf men), (rf_RW ct 0 mw 958 f)]) hP hD rfl ty_mva
        refine ty_Ki hP hD hS hA (va_runV (As := [.int p1, .int 6]) (rest := [.int ((r_5 * (if 0 < ((f 6) - (rf_of f p1 9)) then ((f 6) - (rf_of f p1 9)) else 0)) / (f 16))]) ⟨hx, hb, hml, hown, hts⟩ (m_of_6 l D ct S ws_24 ph xx mo mw ma mf m0 m1 mu mv u0 u1 iz mb th mn mpt mbg mwr mwk mlf men f G (-1) p1 _ hT hph hy1 hR hc) (cm_V 2 hts kc_X11_of ki_RX11 kl_RX11_209 kv_X11_of kx_X11_of kd_X11_of ⟨Nat.le_of_ble_eq_true rfl, Nat.le_of_ble_eq_true rfl⟩) (ty_preE (ci := 11) (q0 := 0) hP hK hD hS hA hX rfl rfl) rfl rfl hl.1 rfl (lv_room (Nat.le_of_ble_eq_true rfl)) dX11_currentOf_88 ⟨Nat.le_of_ble_eq_true rfl, Nat.le_of_ble_eq_true rfl⟩) (fun r_25 u H locs hw_26 hP hD hS => ?_)
        obtain ⟨ws_27, rfl⟩ : ∃ z, z = u := ⟨_, rfl⟩
        obtain ⟨hT, rfl⟩ := hw_26
        obtain ⟨hP, hD⟩ := ty_shPD (w2 := ([(rf_MO mo mw ma mf m0 m1 mu mv u0 u1 iz th mb mn mpt mbg mwr mwk mlf men), (rf_RW ct 0 mw 958 f)] ++ ws_27)) hP hD rfl
        refine lv_ineg hx hb dX11_currentOf_91 ?_
        refine va_mmax hx hb (hml.trans hl.1.symm) hown (hts _ kl_RX11_225) (hts _ jm_max_s) (hts _ ki_RJ9) (hts _ jm_max_c) (Nat.le_of_ble_eq_true rfl) (Nat.le_of_ble_eq_true rfl) (Nat.le_of_ble_eq_true rfl) (Nat.le_of_ble_eq_true rfl) dX11_currentOf_92 ?_
        exact W.iret (v := (if ((r_5 * (if 0 < ((f 6) - (rf_of f p1 9)) then ((f 6) - (rf_of f p1 9)) else 0)) / (f 16)) < (- (rf_of f p1 6)) then (- (rf_of f p1 6)) else ((r_5 * (if 0 < ((f 6) - (rf_of f p1 9)) then ((f 6) - (rf_of f p1 9)) else 0)) / (f 16)))) hx hb hr (fun t ht hW => ⟨⟨(if ((r_5 * (if 0 < ((f 6) - (rf_of f p1 9)) then ((f 6) - (rf_of f p1 9)) else 0)) / (f 16)) < (- (rf_of f p1 6)) then (- (rf_of f p1 6)) else ((r_5 * (if 0 < ((f 6) - (rf_of f p1 9)) then ((f 6) - (rf_of f p1 9)) else 0)) / (f 16))), ws_27, rfl, ⟨hT, ⟨(Or.inl ⟨hc_4, ⟨r_5, hq_9, (Or.inr ⟨hc_11, (Or.inr ⟨hc_18, rfl⟩)⟩)⟩⟩), (rf_mxq (rf_der hp_10 (rf_hs hR).1 (rf_hs hR).2.1 hc_11 hc_18).2 (rf_qp hR hc).1.1.1)⟩⟩, by rw [ht]; exact hP, by rw [hAe]; exact hD⟩, hS.F ht⟩) hS.2.2 dX11_currentOf_95
  · refine lv_iconst (v := 0) hx hb dX11_currentOf_10 (by decide) ?_
    exact W.iret (v := 0) hx hb hr (fun t ht hW => ⟨⟨0, ws_3, rfl, ⟨hT, ⟨(Or.inr ⟨hc_4, rfl⟩), (by have := rf_qp hR hc; constructor <;> (rw [show (0 : Int32).toInt = 0 from by decide]; omega))⟩⟩, by rw [ht]; exact hP, by rw [hAe]; exact hD⟩, hS.F ht⟩) hS.2.2 dX11_currentOf_11
def q_X11_polarizes (f : Nat → Int32) (p1 : Int32) (p2 : Int32) (f1 : Nat → Int32) : Prop := ((¬ ((((p2 * (rf_of f p1 14)) / 1000) - (rf_of f p1 8)) / (rf_of f p1 15)) = (0 : Int32) ∧ (∃ (f1_17 : Nat → Int32), f1_17 = upd f (244 + 54 * p1.toInt.toNat + 8) ((rf_of f p1 8) + ((((p2 * (rf_of f p1 14)) / 1000) - (rf_of f p1 8)) / (rf_of f p1 15))) ∧ (f1 = f1_17))) ∨ (((((p2 * (rf_of f p1 14)) / 1000) - (rf_of f p1 8)) / (rf_of f p1 15)) = (0 : Int32) ∧ ((((p2 * (rf_of f p1 14)) / 1000) = (rf_of f p1 8) ∧ (∃ (f1_34 : Nat → Int32), f1_34 = upd f (244 + 54 * p1.toInt.toNat + 8) ((rf_of f p1 8) + ((((p2 * (rf_of f p1 14)) / 1000) - (rf_of f p1 8)) / (rf_of f p1 15))) ∧ (f1 = f1_34))) ∨ (¬ ((p2 * (rf_of f p1 14)) / 1000) = (rf_of f p1 8) ∧ ((((p2 * (rf_of f p1 14)) / 1000) ≤ (rf_of f p1 8) ∧ (∃ (f1_51 : Nat → Int32), f1_51 = upd f (244 + 54 * p1.toInt.toNat + 8) ((rf_of f p1 8) + (-1)) ∧ (f1 = f1_51))) ∨ (¬ ((p2 * (rf_of f p1 14)) / 1000) ≤ (rf_of f p1 8) ∧ (∃ (f1_64 : Nat → Int32), f1_64 = upd f (244 + 54 * p1.toInt.toNat + 8) ((rf_of f p1 8) + 1) ∧ (f1 = f1_64))))))))
set_option maxRecDepth 100000 in
set_option maxHeartbeats 4000000 in
theorem m_X11_polarizes (l : Launch) (D : va_G) (ct : Nat → ClassId) (S : ty_S) (ws : va_W) (ph : va_W → Prop) (xx : Nat → Nat → Nat → Prop) (mo : Nat) (mw : Nat) (ma : Nat) (mf : Nat) (m0 : Nat) (m1 : Nat) (mu : Nat) (mv : Nat) (u0 : Nat) (u1 : Nat) (iz : Nat) (mb : Nat) (th : Int32) (mn : Int32) (mpt : Int32) (mbg : Int32) (mwr : Int32) (mwk : Int32) (mlf : Int32) (men : Int32) (f : Nat → Int32) (G : Nat → Int32) (cx : Int) (p1 : Int32) (p2 : Int32) (sz : Nat) (hT : ty_V ct S ph ws) (hph : ty_C ph xx) (hy1 : ty_y1 xx) (hR : rf_R G cx f) (hc : 0 ≤ p1.toInt ∧ p1.toInt < (G 9).toInt) : Met l yX11_polarizes (ws_ yX11_polarizes cX11_polarizes 5 none) ({ frames := 1, cells := 0, slots := 0, locals := 23 } : Room) (va_Pc [.ref mo, .int p1, .int p2] (cmP D ct sz ([(rf_MO mo mw ma mf m0 m1 mu mv u0 u1 iz th mb mn mpt mbg mwr mwk mlf men), (rf_RW ct 0 mw 958 f)] ++ ws))) (va_Qv (fun (u : va_W × (Nat → Int32)) => match u with | (u9, f1) => ty_V ct S ph u9 ∧ (q_X11_polarizes f p1 p2 f1) ∧ rf_d (f 8) f f1 ∧ rf_R G cx f1 ∧ rf_sm f f1 ∧ rf_of f1 p1 6 = rf_of f p1 6) (cmB D ([(rf_MO mo mw ma mf m0 m1 mu mv u0 u1 iz th mb mn mpt mbg mwr mwk mlf men), (rf_RW ct 0 mw 958 f)] ++ ws) sz (fun (u : va_W × (Nat → Int32)) => match u with | (u9, f1) => ([(rf_MO mo mw ma mf m0 m1 mu mv u0 u1 iz th mb mn mpt mbg mwr mwk mlf men), (rf_RW ct 0 mw 958 f1)] ++ u9))) (va_A ([(rf_MO mo mw ma mf m0 m1 mu mv u0 u1 iz th mb mn mpt mbg mwr mwk mlf men), (rf_RW ct 0 mw 958 f)] ++ ws) sz)) 0 0 (va_A ([(rf_MO mo mw ma mf m0 m1 mu mv u0 u1 iz th mb mn mpt mbg mwr mwk mlf men), (rf_RW ct 0 mw 958 f)] ++ ws) sz) := by
  refine Met.ofW (cc := cX11_polarizes) (maxL := 5) (ret := none) (by decide) rfl ?_
  intro p e s m args below meth c s₁ B hml hv
  obtain ⟨rfl, hsz, hP, hK, hD0, hX⟩ := hv
  have hx := B.exec
  have hb := B.bytes
  have hr := B.returns
  have hts := ws_all (atoms_spec (ws := ws_ yX11_polarizes cX11_polarizes 5 none) B.pre)
  have hown : s.vm.findClass RX11 = some m.cls := findClass_of_methodNamed B.named
  have hlocks := B.notSynchronized
  subst hsz
  have hD := hD0.self (sz := s.heap.size)
  generalize hAe : va_A ([(rf_MO mo mw ma mf m0 m1 mu mv u0 u1 iz th mb mn mpt mbg mwr mwk mlf men), (rf_RW ct 0 mw 958 f)] ++ ws) s.heap.size = A at hD hX ⊢
  have hA : ∀ q : Nat, s.heap.size ≤ q → A q := fun q h => by rw [← hAe]; exact Or.inr h
  have hS : va_S A s.heap s.heap [] := va_S.rf
  have hl := lv_entry ([.ref mo, .int p1, .int p2]) (n := 5) (Nat.le_of_ble_eq_true rfl)
  rw [lg_entry_eq]
  generalize (lg_sl ([.ref mo, .int p1, .int p2]) ++ List.replicate (5 - (lg_sl ([.ref mo, .int p1, .int p2])).length) Slot.unset).toArray = ls at hl ⊢
  have hl : lv_has ls 5 [(0, .ref mo), (1, .int p1), (2, .int p2)] := hl
  refine lv_iload_n hx hb dX11_polarizes_0 rfl (lv_at hl 2 rfl) ?_
  refine lv_aload_n hx hb dX11_polarizes_1 rfl (lv_at hl 0 rfl) ?_
  refine lv_iload_n hx hb dX11_polarizes_2 rfl (lv_at hl 1 rfl) ?_
  refine lv_bipush (v := 14) hx hb dX11_polarizes_3 (by decide) ?_
  obtain ⟨hP, hD⟩ := ty_ipPD (E1 := []) (E2 := [(rf_MO mo mw ma mf m0 m1 mu mv u0 u1 iz th mb mn mpt mbg mwr mwk mlf men), (rf_RW ct 0 mw 958 f)]) hP hD rfl ty_mva
  refine ty_Ki hP hD hS hA (va_runV (As := [.int p1, .int 14]) (rest := [.int p2]) ⟨hx, hb, hml, hown, hts⟩ (m_of_14 l D ct S ws ph xx mo mw ma mf m0 m1 mu mv u0 u1 iz mb th mn mpt mbg mwr mwk mlf men f G cx p1 _ hT hph hy1 hR hc) (cm_V 2 hts kc_X11_of ki_RX11 kl_RX11_209 kv_X11_of kx_X11_of kd_X11_of ⟨Nat.le_of_ble_eq_true rfl, Nat.le_of_ble_eq_true rfl⟩) (ty_preE (ci := 11) (q0 := 0) hP hK hD hS hA hX rfl rfl) rfl rfl hl.1 rfl (lv_room (Nat.le_of_ble_eq_true rfl)) dX11_polarizes_5 ⟨Nat.le_of_ble_eq_true rfl, Nat.le_of_ble_eq_true rfl⟩) (fun r_1 u H locs hw_2 hP hD hS => ?_)
  obtain ⟨ws_3, rfl⟩ : ∃ z, z = u := ⟨_, rfl⟩
  obtain ⟨hT, rfl⟩ := hw_2
  obtain ⟨hP, hD⟩ := ty_shPD (w2 := ([(rf_MO mo mw ma mf m0 m1 mu mv u0 u1 iz th mb mn mpt mbg mwr mwk mlf men), (rf_RW ct 0 mw 958 f)] ++ ws_3)) hP hD rfl
  refine lv_imul hx hb dX11_polarizes_8 ?_
  refine lv_sipush (v := 1000) hx hb dX11_polarizes_9 (by decide) ?_
  refine lv_idiv hx hb dX11_polarizes_12 (by decide) ?_
  refine lv_istore_n (lv' := [(3, .int ((p2 * (rf_of f p1 14)) / 1000)), (0, .ref mo), (1, .int p1), (2, .int p2)]) hx hb dX11_polarizes_13 rfl hl (by decide) rfl (fun ls hl => ?_)
  refine lv_iload_n hx hb dX11_polarizes_14 rfl (lv_at hl 0 rfl) ?_
  refine lv_aload_n hx hb dX11_polarizes_15 rfl (lv_at hl 1 rfl) ?_
  refine lv_iload_n hx hb dX11_polarizes_16 rfl (lv_at hl 2 rfl) ?_
  refine lv_bipush (v := 8) hx hb dX11_polarizes_17 (by decide) ?_
  obtain ⟨hP, hD⟩ := ty_ipPD (E1 := []) (E2 := [(rf_MO mo mw ma mf m0 m1 mu mv u0 u1 iz th mb mn mpt mbg mwr mwk mlf men), (rf_RW ct 0 mw 958 f)]) hP hD rfl ty_mva
  refine ty_Ki hP hD hS hA (va_runV (As := [.int p1, .int 8]) (rest := [.int ((p2 * (rf_of f p1 14)) / 1000)]) ⟨hx, hb, hml, hown, hts⟩ (m_of_8 l D ct S ws_3 ph xx mo mw ma mf m0 m1 mu mv u0 u1 iz mb th mn mpt mbg mwr mwk mlf men f G cx p1 _ hT hph hy1 hR hc) (cm_V 2 hts kc_X11_of ki_RX11 kl_RX11_209 kv_X11_of kx_X11_of kd_X11_of ⟨Nat.le_of_ble_eq_true rfl, Nat.le_of_ble_eq_true rfl⟩) (ty_preE (ci := 11) (q0 := 0) hP hK hD hS hA hX rfl rfl) rfl rfl hl.1 rfl (lv_room (Nat.le_of_ble_eq_true rfl)) dX11_polarizes_19 ⟨Nat.le_of_ble_eq_true rfl, Nat.le_of_ble_eq_true rfl⟩) (fun r_4 u H locs hw_5 hP hD hS => ?_)
  obtain ⟨ws_6, rfl⟩ : ∃ z, z = u := ⟨_, rfl⟩
  obtain ⟨hT, rfl⟩ := hw_5
  obtain ⟨hP, hD⟩ := ty_shPD (w2 := ([(rf_MO mo mw ma mf m0 m1 mu mv u0 u1 iz th mb mn mpt mbg mwr mwk mlf men), (rf_RW ct 0 mw 958 f)] ++ ws_6)) hP hD rfl
  refine lv_isub hx hb dX11_polarizes_22 ?_
  refine lv_aload_n hx hb dX11_polarizes_23 rfl (lv_at hl 1 rfl) ?_
  refine lv_iload_n hx hb dX11_polarizes_24 rfl (lv_at hl 2 rfl) ?_
  refine lv_bipush (v := 15) hx hb dX11_polarizes_25 (by decide) ?_
  obtain ⟨hP, hD⟩ := ty_ipPD (E1 := []) (E2 := [(rf_MO mo mw ma mf m0 m1 mu mv u0 u1 iz th mb mn mpt mbg mwr mwk mlf men), (rf_RW ct 0 mw 958 f)]) hP hD rfl ty_mva
  refine ty_Ki hP hD hS hA (va_runV (As := [.int p1, .int 15]) (rest := [.int (((p2 * (rf_of f p1 14)) / 1000) - (rf_of f p1 8))]) ⟨hx, hb, hml, hown, hts⟩ (m_of_15 l D ct S ws_6 ph xx mo mw ma mf m0 m1 mu mv u0 u1 iz mb th mn mpt mbg mwr mwk mlf men f G cx p1 _ hT hph hy1 hR hc) (cm_V 2 hts kc_X11_of ki_RX11 kl_RX11_209 kv_X11_of kx_X11_of kd_X11_of ⟨Nat.le_of_ble_eq_true rfl, Nat.le_of_ble_eq_true rfl⟩) (ty_preE (ci := 11) (q0 := 0) hP hK hD hS hA hX rfl rfl) rfl rfl hl.1 rfl (lv_room (Nat.le_of_ble_eq_true rfl)) dX11_polarizes_27 ⟨Nat.le_of_ble_eq_true rfl, Nat.le_of_ble_eq_true rfl⟩) (fun r_7 u H locs hw_8 hP hD hS => ?_)
  obtain ⟨ws_9, rfl⟩ : ∃ z, z = u := ⟨_, rfl⟩
  obtain ⟨hT, rfl⟩ := hw_8
  obtain ⟨hP, hD⟩ := ty_shPD (w2 := ([(rf_MO mo mw ma mf m0 m1 mu mv u0 u1 iz th mb mn mpt mbg mwr mwk mlf men), (rf_RW ct 0 mw 958 f)] ++ ws_9)) hP hD rfl
  refine lv_idiv hx hb dX11_polarizes_30 (rf_nz (rf_stat hR hc).2.2.1) ?_
  refine lv_istore (lv' := [(4, .int ((((p2 * (rf_of f p1 14)) / 1000) - (rf_of f p1 8)) / (rf_of f p1 15))), (3, .int ((p2 * (rf_of f p1 14)) / 1000)), (0, .ref mo), (1, .int p1), (2, .int p2)]) hx hb dX11_polarizes_31 hl (by decide) rfl (fun ls hl => ?_)
  refine lv_iload hx hb dX11_polarizes_33 (lv_at hl 0 rfl) ?_
  refine lv_if_ne (tgt := 67) hx hb dX11_polarizes_35 (by decide) (fun hc_10 => ?_) (fun hc_10 => ?_)
  · refine lv_aload_n hx hb dX11_polarizes_67 rfl (lv_at hl 2 rfl) ?_
    refine lv_iload_n hx hb dX11_polarizes_68 rfl (lv_at hl 3 rfl) ?_
    refine lv_bipush (v := 8) hx hb dX11_polarizes_69 (by decide) ?_
    refine lv_aload_n hx hb dX11_polarizes_71 rfl (lv_at hl 2 rfl) ?_
    refine lv_iload_n hx hb dX11_polarizes_72 rfl (lv_at hl 3 rfl) ?_
    refine lv_bipush (v := 8) hx hb dX11_polarizes_73 (by decide) ?_
    obtain ⟨hP, hD⟩ := ty_ipPD (E1 := []) (E2 := [(rf_MO mo mw ma mf m0 m1 mu mv u0 u1 iz th mb mn mpt mbg mwr mwk mlf men), (rf_RW ct 0 mw 958 f)]) hP hD rfl ty_mva
    refine ty_Ki hP hD hS hA (va_runV (As := [.int p1, .int 8]) (rest := [.int 8, .int p1, .ref mo]) ⟨hx, hb, hml, hown, hts⟩ (m_of_8 l D ct S ws_9 ph xx mo mw ma mf m0 m1 mu mv u0 u1 iz mb th mn mpt mbg mwr mwk mlf men f G cx p1 _ hT hph hy1 hR hc) (cm_V 2 hts kc_X11_of ki_RX11 kl_RX11_209 kv_X11_of kx_X11_of kd_X11_of ⟨Nat.le_of_ble_eq_true rfl, Nat.le_of_ble_eq_true rfl⟩) (ty_preE (ci := 11) (q0 := 0) hP hK hD hS hA hX rfl rfl) rfl rfl hl.1 rfl (lv_room (Nat.le_of_ble_eq_true rfl)) dX11_polarizes_75 ⟨Nat.le_of_ble_eq_true rfl, Nat.le_of_ble_eq_true rfl⟩) (fun r_11 u H locs hw_12 hP hD hS => ?_)
    obtain ⟨ws_13, rfl⟩ : ∃ z, z = u := ⟨_, rfl⟩
    obtain ⟨hT, rfl⟩ := hw_12
    obtain ⟨hP, hD⟩ := ty_shPD (w2 := ([(rf_MO mo mw ma mf m0 m1 mu mv u0 u1 iz th mb mn mpt mbg mwr mwk mlf men), (rf_RW ct 0 mw 958 f)] ++ ws_13)) hP hD rfl
    refine lv_iload hx hb dX11_polarizes_78 (lv_at hl 0 rfl) ?_
    refine lv_iadd hx hb dX11_polarizes_80 ?_
    obtain ⟨hP, hD⟩ := ty_ipPD (E1 := []) (E2 := [(rf_MO mo mw ma mf m0 m1 mu mv u0 u1 iz th mb mn mpt mbg mwr mwk mlf men), (rf_RW ct 0 mw 958 f)]) hP hD rfl ty_mva
    refine ty_Kv hP hD hS hA (va_runV (As := [.int p1, .int 8, .int ((rf_of f p1 8) + ((((p2 * (rf_of f p1 14)) / 1000) - (rf_of f p1 8)) / (rf_of f p1 15)))]) (rest := []) ⟨hx, hb, hml, hown, hts⟩ (m_put_8 l D ct S ws_13 ph xx mo mw ma mf m0 m1 mu mv u0 u1 iz mb th mn mpt mbg mwr mwk mlf men f G cx p1 ((rf_of f p1 8) + ((((p2 * (rf_of f p1 14)) / 1000) - (rf_of f p1 8)) / (rf_of f p1 15))) _ hT hph hy1 hR hc) (cm_V 3 hts kc_X11_put ki_RX11 kl_RX11_234 kv_X11_put kx_X11_put kd_X11_put ⟨Nat.le_of_ble_eq_true rfl, Nat.le_of_ble_eq_true rfl⟩) (ty_preE (ci := 11) (q0 := 0) hP hK hD hS hA hX rfl rfl) rfl rfl hl.1 rfl (lv_room (Nat.le_of_ble_eq_true rfl)) dX11_polarizes_81 ⟨Nat.le_of_ble_eq_true rfl, Nat.le_of_ble_eq_true rfl⟩) (fun u H locs hw_15 hP hD hS => ?_)
    obtain ⟨ws_16, f1_17⟩ := u
    obtain ⟨hT, hp_18⟩ := hw_15
    have hp_18 : rf_d (f 8) f f1_17 ∧ rf_R G cx f1_17 ∧ rf_sm f f1_17 ∧ f1_17 = upd f (244 + 54 * p1.toInt.toNat + 8) ((rf_of f p1 8) + ((((p2 * (rf_of f p1 14)) / 1000) - (rf_of f p1 8)) / (rf_of f p1 15))) := hp_18
    obtain ⟨hd_19, hq_20⟩ := hp_18
    have hD_21 := rf_dt (rf_dr f) hd_19
    have hR_22 := hq_20.1
    have hM_23 := rf_smt (rf_smr f) hq_20.2.1
    obtain ⟨hP, hD⟩ := ty_shPD (w2 := ([(rf_MO mo mw ma mf m0 m1 mu mv u0 u1 iz th mb mn mpt mbg mwr mwk mlf men), (rf_RW ct 0 mw 958 f1_17)] ++ ws_16)) hP hD rfl
    exact W.vret hx hb hr (fun t ht hW => ⟨⟨(ws_16, f1_17), rfl, ⟨hT, ⟨(Or.inl ⟨hc_10, ⟨f1_17, hq_20.2.2, rfl⟩⟩), ⟨hD_21, hR_22, hM_23, (by rw [hq_20.2.2]; exact rf_ne (by decide))⟩⟩⟩, by rw [ht]; exact hP, by rw [hAe]; exact hD⟩, hS.F ht⟩) hS.2.2 dX11_polarizes_84
  · refine lv_iload_n hx hb dX11_polarizes_38 rfl (lv_at hl 1 rfl) ?_
    refine lv_aload_n hx hb dX11_polarizes_39 rfl (lv_at hl 2 rfl) ?_
    refine lv_iload_n hx hb dX11_polarizes_40 rfl (lv_at hl 3 rfl) ?_
    refine lv_bipush (v := 8) hx hb dX11_polarizes_41 (by decide) ?_
    obtain ⟨hP, hD⟩ := ty_ipPD (E1 := []) (E2 := [(rf_MO mo mw ma mf m0 m1 mu mv u0 u1 iz th mb mn mpt mbg mwr mwk mlf men), (rf_RW ct 0 mw 958 f)]) hP hD rfl ty_mva
    refine ty_Ki hP hD hS hA (va_runV (As := [.int p1, .int 8]) (rest := [.int ((p2 * (rf_of f p1 14)) / 1000)]) ⟨hx, hb, hml, hown, hts⟩ (m_of_8 l D ct S ws_9 ph xx mo mw ma mf m0 m1 mu mv u0 u1 iz mb th mn mpt mbg mwr mwk mlf men f G cx p1 _ hT hph hy1 hR hc) (cm_V 2 hts kc_X11_of ki_RX11 kl_RX11_209 kv_X11_of kx_X11_of kd_X11_of ⟨Nat.le_of_ble_eq_true rfl, Nat.le_of_ble_eq_true rfl⟩) (ty_preE (ci := 11) (q0 := 0) hP hK hD hS hA hX rfl rfl) rfl rfl hl.1 rfl (lv_room (Nat.le_of_ble_eq_true rfl)) dX11_polarizes_43 ⟨Nat.le_of_ble_eq_true rfl, Nat.le_of_ble_eq_true rfl⟩) (fun r_24 u H locs hw_25 hP hD hS => ?_)
    obtain ⟨ws_26, rfl⟩ : ∃ z, z = u := ⟨_, rfl⟩
    obtain ⟨hT, rfl⟩ := hw_25
    obtain ⟨hP, hD⟩ := ty_shPD (w2 := ([(rf_MO mo mw ma mf m0 m1 mu mv u0 u1 iz th mb mn mpt mbg mwr mwk mlf men), (rf_RW ct 0 mw 958 f)] ++ ws_26)) hP hD rfl
    refine lv_icmp_eq (tgt := 67) hx hb dX11_polarizes_46 (by decide) (fun hc_27 => ?_) (fun hc_27 => ?_)
    · refine lv_aload_n hx hb dX11_polarizes_67 rfl (lv_at hl 2 rfl) ?_
      refine lv_iload_n hx hb dX11_polarizes_68 rfl (lv_at hl 3 rfl) ?_
      refine lv_bipush (v := 8) hx hb dX11_polarizes_69 (by decide) ?_
      refine lv_aload_n hx hb dX11_polarizes_71 rfl (lv_at hl 2 rfl) ?_
      refine lv_iload_n hx hb dX11_polarizes_72 rfl (lv_at hl 3 rfl) ?_
      refine lv_bipush (v := 8) hx hb dX11_polarizes_73 (by decide) ?_
      obtain ⟨hP, hD⟩ := ty_ipPD (E1 := []) (E2 := [(rf_MO mo mw ma mf m0 m1 mu mv u0 u1 iz th mb mn mpt mbg mwr mwk mlf men), (rf_RW ct 0 mw 958 f)]) hP hD rfl ty_mva
      refine ty_Ki hP hD hS hA (va_runV (As := [.int p1, .int 8]) (rest := [.int 8, .int p1, .ref mo]) ⟨hx, hb, hml, hown, hts⟩ (m_of_8 l D ct S ws_26 ph xx mo mw ma mf m0 m1 mu mv u0 u1 iz mb th mn mpt mbg mwr mwk mlf men f G cx p1 _ hT hph hy1 hR hc) (cm_V 2 hts kc_X11_of ki_RX11 kl_RX11_209 kv_X11_of kx_X11_of kd_X11_of ⟨Nat.le_of_ble_eq_true rfl, Nat.le_of_ble_eq_true rfl⟩) (ty_preE (ci := 11) (q0 := 0) hP hK hD hS hA hX rfl rfl) rfl rfl hl.1 rfl (lv_room (Nat.le_of_ble_eq_true rfl)) dX11_polarizes_75 ⟨Nat.le_of_ble_eq_true rfl, Nat.le_of_ble_eq_true rfl⟩) (fun r_28 u H locs hw_29 hP hD hS => ?_)
      obtain ⟨ws_30, rfl⟩ : ∃ z, z = u := ⟨_, rfl⟩
      obtain ⟨hT, rfl⟩ := hw_29
      obtain ⟨hP, hD⟩ := ty_shPD (w2 := ([(rf_MO mo mw ma mf m0 m1 mu mv u0 u1 iz th mb mn mpt mbg mwr mwk mlf men), (rf_RW ct 0 mw 958 f)] ++ ws_30)) hP hD rfl
      refine lv_iload hx hb dX11_polarizes_78 (lv_at hl 0 rfl) ?_
      refine lv_iadd hx hb dX11_polarizes_80 ?_
      obtain ⟨hP, hD⟩ := ty_ipPD (E1 := []) (E2 := [(rf_MO mo mw ma mf m0 m1 mu mv u0 u1 iz th mb mn mpt mbg mwr mwk mlf men), (rf_RW ct 0 mw 958 f)]) hP hD rfl ty_mva
      refine ty_Kv hP hD hS hA (va_runV (As := [.int p1, .int 8, .int ((rf_of f p1 8) + ((((p2 * (rf_of f p1 14)) / 1000) - (rf_of f p1 8)) / (rf_of f p1 15)))]) (rest := []) ⟨hx, hb, hml, hown, hts⟩ (m_put_8 l D ct S ws_30 ph xx mo mw ma mf m0 m1 mu mv u0 u1 iz mb th mn mpt mbg mwr mwk mlf men f G cx p1 ((rf_of f p1 8) + ((((p2 * (rf_of f p1 14)) / 1000) - (rf_of f p1 8)) / (rf_of f p1 15))) _ hT hph hy1 hR hc) (cm_V 3 hts kc_X11_put ki_RX11 kl_RX11_234 kv_X11_put kx_X11_put kd_X11_put ⟨Nat.le_of_ble_eq_true rfl, Nat.le_of_ble_eq_true rfl⟩) (ty_preE (ci := 11) (q0 := 0) hP hK hD hS hA hX rfl rfl) rfl rfl hl.1 rfl (lv_room (Nat.le_of_ble_eq_true rfl)) dX11_polarizes_81 ⟨Nat.le_of_ble_eq_true rfl, Nat.le_of_ble_eq_true rfl⟩) (fun u H locs hw_32 hP hD hS => ?_)
      obtain ⟨ws_33, f1_34⟩ := u
      obtain ⟨hT, hp_35⟩ := hw_32
      have hp_35 : rf_d (f 8) f f1_34 ∧ rf_R G cx f1_34 ∧ rf_sm f f1_34 ∧ f1_34 = upd f (244 + 54 * p1.toInt.toNat + 8) ((rf_of f p1 8) + ((((p2 * (rf_of f p1 14)) / 1000) - (rf_of f p1 8)) / (rf_of f p1 15))) := hp_35
      obtain ⟨hd_36, hq_37⟩ := hp_35
      have hD_38 := rf_dt (rf_dr f) hd_36
      have hR_39 := hq_37.1
      have hM_40 := rf_smt (rf_smr f) hq_37.2.1
      obtain ⟨hP, hD⟩ := ty_shPD (w2 := ([(rf_MO mo mw ma mf m0 m1 mu mv u0 u1 iz th mb mn mpt mbg mwr mwk mlf men), (rf_RW ct 0 mw 958 f1_34)] ++ ws_33)) hP hD rfl
      exact W.vret hx hb hr (fun t ht hW => ⟨⟨(ws_33, f1_34), rfl, ⟨hT, ⟨(Or.inr ⟨hc_10, (Or.inl ⟨hc_27, ⟨f1_34, hq_37.2.2, rfl⟩⟩)⟩), ⟨hD_38, hR_39, hM_40, (by rw [hq_37.2.2]; exact rf_ne (by decide))⟩⟩⟩, by rw [ht]; exact hP, by rw [hAe]; exact hD⟩, hS.F ht⟩) hS.2.2 dX11_polarizes_84
    · refine lv_iload_n hx hb dX11_polarizes_49 rfl (lv_at hl 1 rfl) ?_
      refine lv_aload_n hx hb dX11_polarizes_50 rfl (lv_at hl 2 rfl) ?_
      refine lv_iload_n hx hb dX11_polarizes_51 rfl (lv_at hl 3 rfl) ?_
      refine lv_bipush (v := 8) hx hb dX11_polarizes_52 (by decide) ?_
      obtain ⟨hP, hD⟩ := ty_ipPD (E1 := []) (E2 := [(rf_MO mo mw ma mf m0 m1 mu mv u0 u1 iz th mb mn mpt mbg mwr mwk mlf men), (rf_RW ct 0 mw 958 f)]) hP hD rfl ty_mva
      refine ty_Ki hP hD hS hA (va_runV (As := [.int p1, .int 8]) (rest := [.int ((p2 * (rf_of f p1 14)) / 1000)]) ⟨hx, hb, hml, hown, hts⟩ (m_of_8 l D ct S ws_26 ph xx mo mw ma mf m0 m1 mu mv u0 u1 iz mb th mn mpt mbg mwr mwk mlf men f G cx p1 _ hT hph hy1 hR hc) (cm_V 2 hts kc_X11_of ki_RX11 kl_RX11_209 kv_X11_of kx_X11_of kd_X11_of ⟨Nat.le_of_ble_eq_true rfl, Nat.le_of_ble_eq_true rfl⟩) (ty_preE (ci := 11) (q0 := 0) hP hK hD hS hA hX rfl rfl) rfl rfl hl.1 rfl (lv_room (Nat.le_of_ble_eq_true rfl)) dX11_polarizes_54 ⟨Nat.le_of_ble_eq_true rfl, Nat.le_of_ble_eq_true rfl⟩) (fun r_41 u H locs hw_42 hP hD hS => ?_)
      obtain ⟨ws_43, rfl⟩ : ∃ z, z = u := ⟨_, rfl⟩
      obtain ⟨hT, rfl⟩ := hw_42
      obtain ⟨hP, hD⟩ := ty_shPD (w2 := ([(rf_MO mo mw ma mf m0 m1 mu mv u0 u1 iz th mb mn mpt mbg mwr mwk mlf men), (rf_RW ct 0 mw 958 f)] ++ ws_43)) hP hD rfl
      refine lv_icmp_le (tgt := 64) hx hb dX11_polarizes_57 (by decide) (fun hc_44 => ?_) (fun hc_44 => ?_)
      · refine lv_iconst (v := (-1)) hx hb dX11_polarizes_64 (by decide) ?_
        refine lv_istore (lv' := [(4, .int (-1)), (3, .int ((p2 * (rf_of f p1 14)) / 1000)), (0, .ref mo), (1, .int p1), (2, .int p2)]) hx hb dX11_polarizes_65 hl (by decide) rfl (fun ls hl => ?_)
        refine lv_aload_n hx hb dX11_polarizes_67 rfl (lv_at hl 2 rfl) ?_
        refine lv_iload_n hx hb dX11_polarizes_68 rfl (lv_at hl 3 rfl) ?_
        refine lv_bipush (v := 8) hx hb dX11_polarizes_69 (by decide) ?_
        refine lv_aload_n hx hb dX11_polarizes_71 rfl (lv_at hl 2 rfl) ?_
        refine lv_iload_n hx hb dX11_polarizes_72 rfl (lv_at hl 3 rfl) ?_
        refine lv_bipush (v := 8) hx hb dX11_polarizes_73 (by decide) ?_
        obtain ⟨hP, hD⟩ := ty_ipPD (E1 := []) (E2 := [(rf_MO mo mw ma mf m0 m1 mu mv u0 u1 iz th mb mn mpt mbg mwr mwk mlf men), (rf_RW ct 0 mw 958 f)]) hP hD rfl ty_mva
        refine ty_Ki hP hD hS hA (va_runV (As := [.int p1, .int 8]) (rest := [.int 8, .int p1, .ref mo]) ⟨hx, hb, hml, hown, hts⟩ (m_of_8 l D ct S ws_43 ph xx mo mw ma mf m0 m1 mu mv u0 u1 iz mb th mn mpt mbg mwr mwk mlf men f G cx p1 _ hT hph hy1 hR hc) (cm_V 2 hts kc_X11_of ki_RX11 kl_RX11_209 kv_X11_of kx_X11_of kd_X11_of ⟨Nat.le_of_ble_eq_true rfl, Nat.le_of_ble_eq_true rfl⟩) (ty_preE (ci := 11) (q0 := 0) hP hK hD hS hA hX rfl rfl) rfl rfl hl.1 rfl (lv_room (Nat.le_of_ble_eq_true rfl)) dX11_polarizes_75 ⟨Nat.le_of_ble_eq_true rfl, Nat.le_of_ble_eq_true rfl⟩) (fun r_45 u H locs hw_46 hP hD hS => ?_)
        obtain ⟨ws_47, rfl⟩ : ∃ z, z = u := ⟨_, rfl⟩
        obtain ⟨hT, rfl⟩ := hw_46
        obtain ⟨hP, hD⟩ := ty_shPD (w2 := ([(rf_MO mo mw ma mf m0 m1 mu mv u0 u1 iz th mb mn mpt mbg mwr mwk mlf men), (rf_RW ct 0 mw 958 f)] ++ ws_47)) hP hD rfl
        refine lv_iload hx hb dX11_polarizes_78 (lv_at hl 0 rfl) ?_
        refine lv_iadd hx hb dX11_polarizes_80 ?_
        obtain ⟨hP, hD⟩ := ty_ipPD (E1 := []) (E2 := [(rf_MO mo mw ma mf m0 m1 mu mv u0 u1 iz th mb mn mpt mbg mwr mwk mlf men), (rf_RW ct 0 mw 958 f)]) hP hD rfl ty_mva
        refine ty_Kv hP hD hS hA (va_runV (As := [.int p1, .int 8, .int ((rf_of f p1 8) + (-1))]) (rest := []) ⟨hx, hb, hml, hown, hts⟩ (m_put_8 l D ct S ws_47 ph xx mo mw ma mf m0 m1 mu mv u0 u1 iz mb th mn mpt mbg mwr mwk mlf men f G cx p1 ((rf_of f p1 8) + (-1)) _ hT hph hy1 hR hc) (cm_V 3 hts kc_X11_put ki_RX11 kl_RX11_234 kv_X11_put kx_X11_put kd_X11_put ⟨Nat.le_of_ble_eq_true rfl, Nat.le_of_ble_eq_true rfl⟩) (ty_preE (ci := 11) (q0 := 0) hP hK hD hS hA hX rfl rfl) rfl rfl hl.1 rfl (lv_room (Nat.le_of_ble_eq_true rfl)) dX11_polarizes_81 ⟨Nat.le_of_ble_eq_true rfl, Nat.le_of_ble_eq_true rfl⟩) (fun u H locs hw_49 hP hD hS => ?_)
        obtain ⟨ws_50, f1_51⟩ := u
        obtain ⟨hT, hp_52⟩ := hw_49
        have hp_52 : rf_d (f 8) f f1_51 ∧ rf_R G cx f1_51 ∧ rf_sm f f1_51 ∧ f1_51 = upd f (244 + 54 * p1.toInt.toNat + 8) ((rf_of f p1 8) + (-1)) := hp_52
        obtain ⟨hd_53, hq_54⟩ := hp_52
        have hD_55 := rf_dt (rf_dr f) hd_53
        have hR_56 := hq_54.1
        have hM_57 := rf_smt (rf_smr f) hq_54.2.1
        obtain ⟨hP, hD⟩ := ty_shPD (w2 := ([(rf_MO mo mw ma mf m0 m1 mu mv u0 u1 iz th mb mn mpt mbg mwr mwk mlf men), (rf_RW ct 0 mw 958 f1_51)] ++ ws_50)) hP hD rfl
        exact W.vret hx hb hr (fun t ht hW => ⟨⟨(ws_50, f1_51), rfl, ⟨hT, ⟨(Or.inr ⟨hc_10, (Or.inr ⟨hc_27, (Or.inl ⟨hc_44, ⟨f1_51, hq_54.2.2, rfl⟩⟩)⟩)⟩), ⟨hD_55, hR_56, hM_57, (by rw [hq_54.2.2]; exact rf_ne (by decide))⟩⟩⟩, by rw [ht]; exact hP, by rw [hAe]; exact hD⟩, hS.F ht⟩) hS.2.2 dX11_polarizes_84
      · refine lv_iconst (v := 1) hx hb dX11_polarizes_60 (by decide) ?_
        refine lv_goto (tgt := 65) hx hb dX11_polarizes_61 (by decide) ?_
        refine lv_istore (lv' := [(4, .int 1), (3, .int ((p2 * (rf_of f p1 14)) / 1000)), (0, .ref mo), (1, .int p1), (2, .int p2)]) hx hb dX11_polarizes_65 hl (by decide) rfl (fun ls hl => ?_)
        refine lv_aload_n hx hb dX11_polarizes_67 rfl (lv_at hl 2 rfl) ?_
        refine lv_iload_n hx hb dX11_polarizes_68 rfl (lv_at hl 3 rfl) ?_
        refine lv_bipush (v := 8) hx hb dX11_polarizes_69 (by decide) ?_
        refine lv_aload_n hx hb dX11_polarizes_71 rfl (lv_at hl 2 rfl) ?_
        refine lv_iload_n hx hb dX11_polarizes_72 rfl (lv_at hl 3 rfl) ?_
        refine lv_bipush (v := 8) hx hb dX11_polarizes_73 (by decide) ?_
        obtain ⟨hP, hD⟩ := ty_ipPD (E1 := []) (E2 := [(rf_MO mo mw ma mf m0 m1 mu mv u0 u1 iz th mb mn mpt mbg mwr mwk mlf men), (rf_RW ct 0 mw 958 f)]) hP hD rfl ty_mva
        refine ty_Ki hP hD hS hA (va_runV (As := [.int p1, .int 8]) (rest := [.int 8, .int p1, .ref mo]) ⟨hx, hb, hml, hown, hts⟩ (m_of_8 l D ct S ws_43 ph xx mo mw ma mf m0 m1 mu mv u0 u1 iz mb th mn mpt mbg mwr mwk mlf men f G cx p1 _ hT hph hy1 hR hc) (cm_V 2 hts kc_X11_of ki_RX11 kl_RX11_209 kv_X11_of kx_X11_of kd_X11_of ⟨Nat.le_of_ble_eq_true rfl, Nat.le_of_ble_eq_true rfl⟩) (ty_preE (ci := 11) (q0 := 0) hP hK hD hS hA hX rfl rfl) rfl rfl hl.1 rfl (lv_room (Nat.le_of_ble_eq_true rfl)) dX11_polarizes_75 ⟨Nat.le_of_ble_eq_true rfl, Nat.le_of_ble_eq_true rfl⟩) (fun r_58 u H locs hw_59 hP hD hS => ?_)
        obtain ⟨ws_60, rfl⟩ : ∃ z, z = u := ⟨_, rfl⟩
        obtain ⟨hT, rfl⟩ := hw_59
        obtain ⟨hP, hD⟩ := ty_shPD (w2 := ([(rf_MO mo mw ma mf m0 m1 mu mv u0 u1 iz th mb mn mpt mbg mwr mwk mlf men), (rf_RW ct 0 mw 958 f)] ++ ws_60)) hP hD rfl
        refine lv_iload hx hb dX11_polarizes_78 (lv_at hl 0 rfl) ?_
        refine lv_iadd hx hb dX11_polarizes_80 ?_
        obtain ⟨hP, hD⟩ := ty_ipPD (E1 := []) (E2 := [(rf_MO mo mw ma mf m0 m1 mu mv u0 u1 iz th mb mn mpt mbg mwr mwk mlf men), (rf_RW ct 0 mw 958 f)]) hP hD rfl ty_mva
        refine ty_Kv hP hD hS hA (va_runV (As := [.int p1, .int 8, .int ((rf_of f p1 8) + 1)]) (rest := []) ⟨hx, hb, hml, hown, hts⟩ (m_put_8 l D ct S ws_60 ph xx mo mw ma mf m0 m1 mu mv u0 u1 iz mb th mn mpt mbg mwr mwk mlf men f G cx p1 ((rf_of f p1 8) + 1) _ hT hph hy1 hR hc) (cm_V 3 hts kc_X11_put ki_RX11 kl_RX11_234 kv_X11_put kx_X11_put kd_X11_put ⟨Nat.le_of_ble_eq_true rfl, Nat.le_of_ble_eq_true rfl⟩) (ty_preE (ci := 11) (q0 := 0) hP hK hD hS hA hX rfl rfl) rfl rfl hl.1 rfl (lv_room (Nat.le_of_ble_eq_true rfl)) dX11_polarizes_81 ⟨Nat.le_of_ble_eq_true rfl, Nat.le_of_ble_eq_true rfl⟩) (fun u H locs hw_62 hP hD hS => ?_)
        obtain ⟨ws_63, f1_64⟩ := u
        obtain ⟨hT, hp_65⟩ := hw_62
        have hp_65 : rf_d (f 8) f f1_64 ∧ rf_R G cx f1_64 ∧ rf_sm f f1_64 ∧ f1_64 = upd f (244 + 54 * p1.toInt.toNat + 8) ((rf_of f p1 8) + 1) := hp_65
        obtain ⟨hd_66, hq_67⟩ := hp_65
        have hD_68 := rf_dt (rf_dr f) hd_66
        have hR_69 := hq_67.1
        have hM_70 := rf_smt (rf_smr f) hq_67.2.1
        obtain ⟨hP, hD⟩ := ty_shPD (w2 := ([(rf_MO mo mw ma mf m0 m1 mu mv u0 u1 iz th mb mn mpt mbg mwr mwk mlf men), (rf_RW ct 0 mw 958 f1_64)] ++ ws_63)) hP hD rfl
        exact W.vret hx hb hr (fun t ht hW => ⟨⟨(ws_63, f1_64), rfl, ⟨hT, ⟨(Or.inr ⟨hc_10, (Or.inr ⟨hc_27, (Or.inr ⟨hc_44, ⟨f1_64, hq_67.2.2, rfl⟩⟩)⟩)⟩), ⟨hD_68, hR_69, hM_70, (by rw [hq_67.2.2]; exact rf_ne (by decide))⟩⟩⟩, by rw [ht]; exact hP, by rw [hAe]; exact hD⟩, hS.F ht⟩) hS.2.2 dX11_polarizes_84
theorem rf_mv2b {G : Nat → Int32} {c a : Int32} (ha : 0 ≤ a.toInt ∧ a.toInt ≤ 5000999) : rf_k G c.toInt.toNat 16 (a - ((a / 1000) * 1000)) := by
  intro _
  show 0 ≤ Int32.toInt _ ∧ Int32.toInt _ ≤ 999
  have t : (1000 : Int32).toInt = 1000 := by decide
  have e1 : (a / 1000).toInt = a.toInt / 1000 := by rw [Jvm.Kit.i32_div (by omega), t, Int.tdiv_eq_ediv_of_nonneg ha.1]
  have e2 : ((a / 1000) * 1000).toInt = (a.toInt / 1000) * 1000 := by rw [Jvm.Kit.i32_mul (by rw [e1, t]; omega) (by rw [e1, t]; omega), e1, t]
  rw [Jvm.Kit.i32_sub (by rw [e2]; omega) (by rw [e2]; omega), e2]
  omega
def q_X11_moves (f : Nat → Int32) (su : Nat → Int64) (p1 : Int32) (p2 : Int32) (f1 : Nat → Int32) (su1 : Nat → Int64) : Prop := ((p2 ≤ (0 : Int32) ∧ (∃ (f1_8 : Nat → Int32), f1_8 = upd f (244 + 54 * p1.toInt.toNat + 6) ((rf_of f p1 6) + p2) ∧ (∃ (su1_18 : Nat → Int64), (q_X11_adds su p1 (1 : Int32) ((- p2).toInt64) su1_18) ∧ (∃ (su1_25 : Nat → Int64), (q_X11_adds su1_18 p1 (5 : Int32) ((- p2).toInt64) su1_25) ∧ (f1 = f1_8 ∧ su1 = su1_25))))) ∨ (¬ p2 ≤ (0 : Int32) ∧ (∃ (f1_41 : Nat → Int32), f1_41 = upd f (244 + 54 * p1.toInt.toNat + 6) (if ((rf_of f p1 6) + (((p2 * (f 0)) + (rf_of f p1 16)) / 1000)) < (2 * (rf_of f p1 12)) then ((rf_of f p1 6) + (((p2 * (f 0)) + (rf_of f p1 16)) / 1000)) else (2 * (rf_of f p1 12))) ∧ (∃ (f1_51 : Nat → Int32), f1_51 = upd f1_41 (244 + 54 * p1.toInt.toNat + 16) (((p2 * (f 0)) + (rf_of f p1 16)) - ((((p2 * (f 0)) + (rf_of f p1 16)) / 1000) * 1000)) ∧ (∃ (su1_61 : Nat → Int64), (q_X11_adds su p1 (0 : Int32) p2.toInt64 su1_61) ∧ (∃ (su1_68 : Nat → Int64), (q_X11_adds su1_61 p1 (4 : Int32) p2.toInt64 su1_68) ∧ (f1 = f1_51 ∧ su1 = su1_68)))))))
set_option maxRecDepth 100000 in
set_option maxHeartbeats 4000000 in
theorem m_X11_moves (l : Launch) (D : va_G) (ct : Nat → ClassId) (S : ty_S) (ws : va_W) (ph : va_W → Prop) (xx : Nat → Nat → Nat → Prop) (mo : Nat) (mw : Nat) (ma : Nat) (mf : Nat) (m0 : Nat) (m1 : Nat) (mu : Nat) (mv : Nat) (u0 : Nat) (u1 : Nat) (iz : Nat) (mb : Nat) (th : Int32) (mn : Int32) (mpt : Int32) (mbg : Int32) (mwr : Int32) (mwk : Int32) (mlf : Int32) (men : Int32) (f : Nat → Int32) (G : Nat → Int32) (cx : Int) (su : Nat → Int64) (p1 : Int32) (p2 : Int32) (sz : Nat) (hT : ty_V ct S ph ws) (hph : ty_C ph xx) (hy1 : ty_y1 xx) (hy11 : ty_y0 xx 11) (hR : rf_R G cx f) (hc : 0 ≤ p1.toInt ∧ p1.toInt < (G 9).toInt) (hi : -((rf_of f p1 6).toInt) ≤ p2.toInt ∧ p2.toInt ≤ 5000) : Met l yX11_moves (ws_ yX11_moves cX11_moves 4 none) ({ frames := 1, cells := 0, slots := 0, locals := 24 } : Room) (va_Pc [.ref mo, .int p1, .int p2] (cmP D ct sz ([(rf_MO mo mw ma mf m0 m1 mu mv u0 u1 iz th mb mn mpt mbg mwr mwk mlf men), (rf_RW ct 0 mw 958 f), (mu, .inl (ct 1, 42, .inr (.inl su)))] ++ ws))) (va_Qv (fun (u : va_W × (Nat → Int32) × (Nat → Int64)) => match u with | (u9, f1, su1) => ty_V ct S ph u9 ∧ (q_X11_moves f su p1 p2 f1 su1) ∧ rf_d (f 8) f f1 ∧ rf_R G cx f1 ∧ rf_sm f f1) (cmB D ([(rf_MO mo mw ma mf m0 m1 mu mv u0 u1 iz th mb mn mpt mbg mwr mwk mlf men), (rf_RW ct 0 mw 958 f), (mu, .inl (ct 1, 42, .inr (.inl su)))] ++ ws) sz (fun (u : va_W × (Nat → Int32) × (Nat → Int64)) => match u with | (u9, f1, su1) => ([(rf_MO mo mw ma mf m0 m1 mu mv u0 u1 iz th mb mn mpt mbg mwr mwk mlf men), (rf_RW ct 0 mw 958 f1), (mu, .inl (ct 1, 42, .inr (.inl su1)))] ++ u9))) (va_A ([(rf_MO mo mw ma mf m0 m1 mu mv u0 u1 iz th mb mn mpt mbg mwr mwk mlf men), (rf_RW ct 0 mw 958 f), (mu, .inl (ct 1, 42, .inr (.inl su)))] ++ ws) sz)) 0 0 (va_A ([(rf_MO mo mw ma mf m0 m1 mu mv u0 u1 iz th mb mn mpt mbg mwr mwk mlf men), (rf_RW ct 0 mw 958 f), (mu, .inl (ct 1, 42, .inr (.inl su)))] ++ ws) sz) := by
  refine Met.ofW (cc := cX11_moves) (maxL := 4) (ret := none) (by decide) rfl ?_
  intro p e s m args below meth c s₁ B hml hv
  obtain ⟨rfl, hsz, hP, hK, hD0, hX⟩ := hv
  have hx := B.exec
  have hb := B.bytes
  have hr := B.returns
  have hts := ws_all (atoms_spec (ws := ws_ yX11_moves cX11_moves 4 none) B.pre)
  have hown : s.vm.findClass RX11 = some m.cls := findClass_of_methodNamed B.named
  have hlocks := B.notSynchronized
  subst hsz
  have hD := hD0.self (sz := s.heap.size)
  generalize hAe : va_A ([(rf_MO mo mw ma mf m0 m1 mu mv u0 u1 iz th mb mn mpt mbg mwr mwk mlf men), (rf_RW ct 0 mw 958 f), (mu, .inl (ct 1, 42, .inr (.inl su)))] ++ ws) s.heap.size = A at hD hX ⊢
  have hA : ∀ q : Nat, s.heap.size ≤ q → A q := fun q h => by rw [← hAe]; exact Or.inr h
  have hS : va_S A s.heap s.heap [] := va_S.rf
  have hl := lv_entry ([.ref mo, .int p1, .int p2]) (n := 4) (Nat.le_of_ble_eq_true rfl)
  rw [lg_entry_eq]
  generalize (lg_sl ([.ref mo, .int p1, .int p2]) ++ List.replicate (4 - (lg_sl ([.ref mo, .int p1, .int p2])).length) Slot.unset).toArray = ls at hl ⊢
  have hl : lv_has ls 4 [(0, .ref mo), (1, .int p1), (2, .int p2)] := hl
  refine lv_iload_n hx hb dX11_moves_0 rfl (lv_at hl 2 rfl) ?_
  refine lv_if_le (tgt := 84) hx hb dX11_moves_1 (by decide) (fun hc_1 => ?_) (fun hc_1 => ?_)
  · refine lv_aload_n hx hb dX11_moves_84 rfl (lv_at hl 0 rfl) ?_
    refine lv_iload_n hx hb dX11_moves_85 rfl (lv_at hl 1 rfl) ?_
    refine lv_bipush (v := 6) hx hb dX11_moves_86 (by decide) ?_
    refine lv_aload_n hx hb dX11_moves_88 rfl (lv_at hl 0 rfl) ?_
    refine lv_iload_n hx hb dX11_moves_89 rfl (lv_at hl 1 rfl) ?_
    refine lv_bipush (v := 6) hx hb dX11_moves_90 (by decide) ?_
    obtain ⟨hP, hD⟩ := ty_opPD (E1 := [(mu, .inl (ct 1, 42, .inr (.inl su)))]) (E2 := [(rf_MO mo mw ma mf m0 m1 mu mv u0 u1 iz th mb mn mpt mbg mwr mwk mlf men), (rf_RW ct 0 mw 958 f)]) (n := 3) [2, 0, 1] hP hD rfl rfl (by decide +kernel) ty_mva
    refine ty_Ki hP hD hS hA (va_runV (As := [.int p1, .int 6]) (rest := [.int 6, .int p1, .ref mo]) ⟨hx, hb, hml, hown, hts⟩ (m_of_6 l D ct S ws ph xx mo mw ma mf m0 m1 mu mv u0 u1 iz mb th mn mpt mbg mwr mwk mlf men f G cx p1 _ hT hph hy1 hR hc) (cm_V 2 hts kc_X11_of ki_RX11 kl_RX11_209 kv_X11_of kx_X11_of kd_X11_of ⟨Nat.le_of_ble_eq_true rfl, Nat.le_of_ble_eq_true rfl⟩) (ty_preE (ci := 11) (q0 := 1) hP hK hD hS hA hX rfl rfl) rfl rfl hl.1 rfl (lv_room (Nat.le_of_ble_eq_true rfl)) dX11_moves_92 ⟨Nat.le_of_ble_eq_true rfl, Nat.le_of_ble_eq_true rfl⟩) (fun r_2 u H locs hw_3 hP hD hS => ?_)
    obtain ⟨ws_4, rfl⟩ : ∃ z, z = u := ⟨_, rfl⟩
    obtain ⟨hT, rfl⟩ := hw_3
    obtain ⟨hP, hD⟩ := ty_shPD (w2 := ([(mu, .inl (ct 1, 42, .inr (.inl su))), (rf_MO mo mw ma mf m0 m1 mu mv u0 u1 iz th mb mn mpt mbg mwr mwk mlf men), (rf_RW ct 0 mw 958 f)] ++ ws_4)) hP hD rfl
    refine lv_iload_n hx hb dX11_moves_95 rfl (lv_at hl 2 rfl) ?_
    refine lv_iadd hx hb dX11_moves_96 ?_
    obtain ⟨hP, hD⟩ := ty_ipPD (E1 := [(mu, .inl (ct 1, 42, .inr (.inl su)))]) (E2 := [(rf_MO mo mw ma mf m0 m1 mu mv u0 u1 iz th mb mn mpt mbg mwr mwk mlf men), (rf_RW ct 0 mw 958 f)]) hP hD rfl ty_mva
    refine ty_Kv hP hD hS hA (va_runV (As := [.int p1, .int 6, .int ((rf_of f p1 6) + p2)]) (rest := []) ⟨hx, hb, hml, hown, hts⟩ (m_put_6 l D ct S ws_4 ph xx mo mw ma mf m0 m1 mu mv u0 u1 iz mb th mn mpt mbg mwr mwk mlf men f G cx p1 ((rf_of f p1 6) + p2) _ hT hph hy1 hR hc (rf_mv3 hR hc hi (cm_nle9 hc_1))) (cm_V 3 hts kc_X11_put ki_RX11 kl_RX11_234 kv_X11_put kx_X11_put kd_X11_put ⟨Nat.le_of_ble_eq_true rfl, Nat.le_of_ble_eq_true rfl⟩) (ty_preE (ci := 11) (q0 := 1) hP hK hD hS hA hX rfl rfl) rfl rfl hl.1 rfl (lv_room (Nat.le_of_ble_eq_true rfl)) dX11_moves_97 ⟨Nat.le_of_ble_eq_true rfl, Nat.le_of_ble_eq_true rfl⟩) (fun u H locs hw_6 hP hD hS => ?_)
    obtain ⟨ws_7, f1_8⟩ := u
    obtain ⟨hT, hp_9⟩ := hw_6
    have hp_9 : rf_d (f 8) f f1_8 ∧ rf_R G cx f1_8 ∧ rf_sm f f1_8 ∧ f1_8 = upd f (244 + 54 * p1.toInt.toNat + 6) ((rf_of f p1 6) + p2) := hp_9
    obtain ⟨hd_10, hq_11⟩ := hp_9
    have hD_12 := rf_dt (rf_dr f) hd_10
    have hR_13 := hq_11.1
    have hM_14 := rf_smt (rf_smr f) hq_11.2.1
    obtain ⟨hP, hD⟩ := ty_shPD (w2 := ([(mu, .inl (ct 1, 42, .inr (.inl su))), (rf_MO mo mw ma mf m0 m1 mu mv u0 u1 iz th mb mn mpt mbg mwr mwk mlf men), (rf_RW ct 0 mw 958 f1_8)] ++ ws_7)) hP hD rfl
    refine lv_aload_n hx hb dX11_moves_100 rfl (lv_at hl 0 rfl) ?_
    refine lv_iload_n hx hb dX11_moves_101 rfl (lv_at hl 1 rfl) ?_
    refine lv_iconst (v := 1) hx hb dX11_moves_102 (by decide) ?_
    refine lv_iload_n hx hb dX11_moves_103 rfl (lv_at hl 2 rfl) ?_
    refine lv_ineg hx hb dX11_moves_104 ?_
    refine lv_i2l hx hb dX11_moves_105 rfl ?_
    obtain ⟨hP, hD⟩ := ty_opPD (E1 := [(rf_RW ct 0 mw 958 f1_8)]) (E2 := [(rf_MO mo mw ma mf m0 m1 mu mv u0 u1 iz th mb mn mpt mbg mwr mwk mlf men), (mu, .inl (ct 1, 42, .inr (.inl su)))]) (n := 3) [2, 1, 0] hP hD rfl rfl (by decide +kernel) ty_mva
    refine ty_Kv hP hD hS hA (va_runV (As := [.int p1, .int 1, .long ((- p2).toInt64)]) (rest := []) ⟨hx, hb, hml, hown, hts⟩ (m_X11_adds l D ct S ws_7 ph xx mo mw ma mf m0 m1 mu mv u0 u1 iz mb th mn mpt mbg mwr mwk mlf men su p1 (1 : Int32) ((- p2).toInt64) _ hT hph hy1 hy11 (rf_c6 hR_13 hc) (by decide)) (cm_V 3 hts kc_X11_adds ki_RX11 kl_RX11_238 kv_X11_adds kx_X11_adds kd_X11_adds ⟨Nat.le_of_ble_eq_true rfl, Nat.le_of_ble_eq_true rfl⟩) (ty_preE (ci := 11) (q0 := 1) hP hK hD hS hA hX rfl rfl) rfl rfl hl.1 rfl (lv_room (Nat.le_of_ble_eq_true rfl)) dX11_moves_106 ⟨Nat.le_of_ble_eq_true rfl, Nat.le_of_ble_eq_true rfl⟩) (fun u H locs hw_16 hP hD hS => ?_)
    obtain ⟨ws_17, su1_18⟩ := u
    obtain ⟨hT, hp_19⟩ := hw_16
    have hp_19 : (q_X11_adds su p1 (1 : Int32) ((- p2).toInt64) su1_18) := hp_19
    obtain ⟨hP, hD⟩ := ty_shPD (w2 := ([(rf_RW ct 0 mw 958 f1_8), (rf_MO mo mw ma mf m0 m1 mu mv u0 u1 iz th mb mn mpt mbg mwr mwk mlf men), (mu, .inl (ct 1, 42, .inr (.inl su1_18)))] ++ ws_17)) hP hD rfl
    refine lv_aload_n hx hb dX11_moves_109 rfl (lv_at hl 0 rfl) ?_
    refine lv_iload_n hx hb dX11_moves_110 rfl (lv_at hl 1 rfl) ?_
    refine lv_iconst (v := 5) hx hb dX11_moves_111 (by decide) ?_
    refine lv_iload_n hx hb dX11_moves_112 rfl (lv_at hl 2 rfl) ?_
    refine lv_ineg hx hb dX11_moves_113 ?_
    refine lv_i2l hx hb dX11_moves_114 rfl ?_
    obtain ⟨hP, hD⟩ := ty_ipPD (E1 := [(rf_RW ct 0 mw 958 f1_8)]) (E2 := [(rf_MO mo mw ma mf m0 m1 mu mv u0 u1 iz th mb mn mpt mbg mwr mwk mlf men), (mu, .inl (ct 1, 42, .inr (.inl su1_18)))]) hP hD rfl ty_mva
    refine ty_Kv hP hD hS hA (va_runV (As := [.int p1, .int 5, .long ((- p2).toInt64)]) (rest := []) ⟨hx, hb, hml, hown, hts⟩ (m_X11_adds l D ct S ws_17 ph xx mo mw ma mf m0 m1 mu mv u0 u1 iz mb th mn mpt mbg mwr mwk mlf men su1_18 p1 (5 : Int32) ((- p2).toInt64) _ hT hph hy1 hy11 (rf_c6 hR_13 hc) (by decide)) (cm_V 3 hts kc_X11_adds ki_RX11 kl_RX11_238 kv_X11_adds kx_X11_adds kd_X11_adds ⟨Nat.le_of_ble_eq_true rfl, Nat.le_of_ble_eq_true rfl⟩) (ty_preE (ci := 11) (q0 := 1) hP hK hD hS hA hX rfl rfl) rfl rfl hl.1 rfl (lv_room (Nat.le_of_ble_eq_true rfl)) dX11_moves_115 ⟨Nat.le_of_ble_eq_true rfl, Nat.le_of_ble_eq_true rfl⟩) (fun u H locs hw_23 hP hD hS => ?_)
    obtain ⟨ws_24, su1_25⟩ := u
    obtain ⟨hT, hp_26⟩ := hw_23
    have hp_26 : (q_X11_adds su1_18 p1 (5 : Int32) ((- p2).toInt64) su1_25) := hp_26
    obtain ⟨hP, hD⟩ := ty_shPD (w2 := ([(rf_RW ct 0 mw 958 f1_8), (rf_MO mo mw ma mf m0 m1 mu mv u0 u1 iz th mb mn mpt mbg mwr mwk mlf men), (mu, .inl (ct 1, 42, .inr (.inl su1_25)))] ++ ws_24)) hP hD rfl
    obtain ⟨hP, hD⟩ := ty_ordPD (E2 := [(rf_MO mo mw ma mf m0 m1 mu mv u0 u1 iz th mb mn mpt mbg mwr mwk mlf men), (rf_RW ct 0 mw 958 f1_8), (mu, .inl (ct 1, 42, .inr (.inl su1_25)))]) (n := 3) [1, 0, 2] hP hD rfl rfl (by decide +kernel)
    exact W.vret hx hb hr (fun t ht hW => ⟨⟨(ws_24, f1_8, su1_25), rfl, ⟨hT, ⟨(Or.inl ⟨hc_1, ⟨f1_8, hq_11.2.2, ⟨su1_18, hp_19, ⟨su1_25, hp_26, ⟨rfl, rfl⟩⟩⟩⟩⟩), ⟨hD_12, hR_13, hM_14⟩⟩⟩, by rw [ht]; exact hP, by rw [hAe]; exact hD⟩, hS.F ht⟩) hS.2.2 dX11_moves_118
  · refine lv_iload_n hx hb dX11_moves_4 rfl (lv_at hl 2 rfl) ?_
    refine lv_aload_n hx hb dX11_moves_5 rfl (lv_at hl 0 rfl) ?_
    refine va_get (v := .ref mw) (D := D) (ci := 11) (C := RX11) (T := TX11) (N := 19) hx hb hts in_X11 hown hK hP 0 rfl rfl 0 (by decide) (hts _ kl_RX11_9) (fun _ h9 => h9) rfl dX11_moves_6 ?_
    refine lv_iconst (v := 0) hx hb dX11_moves_9 (by decide) ?_
    refine va_iald hx hb hK hP 1 0 rfl rfl (cm_vin (by decide)) dX11_moves_10 ?_
    refine cm_cst (y := (f 0)) (by first | rfl | decide +kernel) ?_
    refine lv_imul hx hb dX11_moves_11 ?_
    refine lv_aload_n hx hb dX11_moves_12 rfl (lv_at hl 0 rfl) ?_
    refine lv_iload_n hx hb dX11_moves_13 rfl (lv_at hl 1 rfl) ?_
    refine lv_bipush (v := 16) hx hb dX11_moves_14 (by decide) ?_
    obtain ⟨hP, hD⟩ := ty_opPD (E1 := [(mu, .inl (ct 1, 42, .inr (.inl su)))]) (E2 := [(rf_MO mo mw ma mf m0 m1 mu mv u0 u1 iz th mb mn mpt mbg mwr mwk mlf men), (rf_RW ct 0 mw 958 f)]) (n := 3) [2, 0, 1] hP hD rfl rfl (by decide +kernel) ty_mva
    refine ty_Ki hP hD hS hA (va_runV (As := [.int p1, .int 16]) (rest := [.int (p2 * (f 0))]) ⟨hx, hb, hml, hown, hts⟩ (m_of_16 l D ct S ws ph xx mo mw ma mf m0 m1 mu mv u0 u1 iz mb th mn mpt mbg mwr mwk mlf men f G cx p1 _ hT hph hy1 hR hc) (cm_V 2 hts kc_X11_of ki_RX11 kl_RX11_209 kv_X11_of kx_X11_of kd_X11_of ⟨Nat.le_of_ble_eq_true rfl, Nat.le_of_ble_eq_true rfl⟩) (ty_preE (ci := 11) (q0 := 1) hP hK hD hS hA hX rfl rfl) rfl rfl hl.1 rfl (lv_room (Nat.le_of_ble_eq_true rfl)) dX11_moves_16 ⟨Nat.le_of_ble_eq_true rfl, Nat.le_of_ble_eq_true rfl⟩) (fun r_29 u H locs hw_30 hP hD hS => ?_)
    obtain ⟨ws_31, rfl⟩ : ∃ z, z = u := ⟨_, rfl⟩
    obtain ⟨hT, rfl⟩ := hw_30
    obtain ⟨hP, hD⟩ := ty_shPD (w2 := ([(mu, .inl (ct 1, 42, .inr (.inl su))), (rf_MO mo mw ma mf m0 m1 mu mv u0 u1 iz th mb mn mpt mbg mwr mwk mlf men), (rf_RW ct 0 mw 958 f)] ++ ws_31)) hP hD rfl
    refine lv_iadd hx hb dX11_moves_19 ?_
    refine lv_istore_n (lv' := [(3, .int ((p2 * (f 0)) + (rf_of f p1 16))), (0, .ref mo), (1, .int p1), (2, .int p2)]) hx hb dX11_moves_20 rfl hl (by decide) rfl (fun ls hl => ?_)
    refine lv_aload_n hx hb dX11_moves_21 rfl (lv_at hl 1 rfl) ?_
    refine lv_iload_n hx hb dX11_moves_22 rfl (lv_at hl 2 rfl) ?_
    refine lv_bipush (v := 6) hx hb dX11_moves_23 (by decide) ?_
    refine lv_iconst (v := 2) hx hb dX11_moves_25 (by decide) ?_
    refine lv_aload_n hx hb dX11_moves_26 rfl (lv_at hl 1 rfl) ?_
    refine lv_iload_n hx hb dX11_moves_27 rfl (lv_at hl 2 rfl) ?_
    refine lv_bipush (v := 12) hx hb dX11_moves_28 (by decide) ?_
    obtain ⟨hP, hD⟩ := ty_ipPD (E1 := [(mu, .inl (ct 1, 42, .inr (.inl su)))]) (E2 := [(rf_MO mo mw ma mf m0 m1 mu mv u0 u1 iz th mb mn mpt mbg mwr mwk mlf men), (rf_RW ct 0 mw 958 f)]) hP hD rfl ty_mva
    refine ty_Ki hP hD hS hA (va_runV (As := [.int p1, .int 12]) (rest := [.int 2, .int 6, .int p1, .ref mo]) ⟨hx, hb, hml, hown, hts⟩ (m_of_12 l D ct S ws_31 ph xx mo mw ma mf m0 m1 mu mv u0 u1 iz mb th mn mpt mbg mwr mwk mlf men f G cx p1 _ hT hph hy1 hR hc) (cm_V 2 hts kc_X11_of ki_RX11 kl_RX11_209 kv_X11_of kx_X11_of kd_X11_of ⟨Nat.le_of_ble_eq_true rfl, Nat.le_of_ble_eq_true rfl⟩) (ty_preE (ci := 11) (q0 := 1) hP hK hD hS hA hX rfl rfl) rfl rfl hl.1 rfl (lv_room (Nat.le_of_ble_eq_true rfl)) dX11_moves_30 ⟨Nat.le_of_ble_eq_true rfl, Nat.le_of_ble_eq_true rfl⟩) (fun r_32 u H locs hw_33 hP hD hS => ?_)
    obtain ⟨ws_34, rfl⟩ : ∃ z, z = u := ⟨_, rfl⟩
    obtain ⟨hT, rfl⟩ := hw_33
    obtain ⟨hP, hD⟩ := ty_shPD (w2 := ([(mu, .inl (ct 1, 42, .inr (.inl su))), (rf_MO mo mw ma mf m0 m1 mu mv u0 u1 iz th mb mn mpt mbg mwr mwk mlf men), (rf_RW ct 0 mw 958 f)] ++ ws_34)) hP hD rfl
    refine lv_imul hx hb dX11_moves_33 ?_
    refine lv_aload_n hx hb dX11_moves_34 rfl (lv_at hl 1 rfl) ?_
    refine lv_iload_n hx hb dX11_moves_35 rfl (lv_at hl 2 rfl) ?_
    refine lv_bipush (v := 6) hx hb dX11_moves_36 (by decide) ?_
    obtain ⟨hP, hD⟩ := ty_ipPD (E1 := [(mu, .inl (ct 1, 42, .inr (.inl su)))]) (E2 := [(rf_MO mo mw ma mf m0 m1 mu mv u0 u1 iz th mb mn mpt mbg mwr mwk mlf men), (rf_RW ct 0 mw 958 f)]) hP hD rfl ty_mva
    refine ty_Ki hP hD hS hA (va_runV (As := [.int p1, .int 6]) (rest := [.int (2 * (rf_of f p1 12)), .int 6, .int p1, .ref mo]) ⟨hx, hb, hml, hown, hts⟩ (m_of_6 l D ct S ws_34 ph xx mo mw ma mf m0 m1 mu mv u0 u1 iz mb th mn mpt mbg mwr mwk mlf men f G cx p1 _ hT hph hy1 hR hc) (cm_V 2 hts kc_X11_of ki_RX11 kl_RX11_209 kv_X11_of kx_X11_of kd_X11_of ⟨Nat.le_of_ble_eq_true rfl, Nat.le_of_ble_eq_true rfl⟩) (ty_preE (ci := 11) (q0 := 1) hP hK hD hS hA hX rfl rfl) rfl rfl hl.1 rfl (lv_room (Nat.le_of_ble_eq_true rfl)) dX11_moves_38 ⟨Nat.le_of_ble_eq_true rfl, Nat.le_of_ble_eq_true rfl⟩) (fun r_35 u H locs hw_36 hP hD hS => ?_)
    obtain ⟨ws_37, rfl⟩ : ∃ z, z = u := ⟨_, rfl⟩
    obtain ⟨hT, rfl⟩ := hw_36
    obtain ⟨hP, hD⟩ := ty_shPD (w2 := ([(mu, .inl (ct 1, 42, .inr (.inl su))), (rf_MO mo mw ma mf m0 m1 mu mv u0 u1 iz th mb mn mpt mbg mwr mwk mlf men), (rf_RW ct 0 mw 958 f)] ++ ws_37)) hP hD rfl
    refine lv_iload_n hx hb dX11_moves_41 rfl (lv_at hl 0 rfl) ?_
    refine lv_sipush (v := 1000) hx hb dX11_moves_42 (by decide) ?_
    refine lv_idiv hx hb dX11_moves_45 (by decide) ?_
    refine lv_iadd hx hb dX11_moves_46 ?_
    refine va_mmin hx hb (hml.trans hl.1.symm) hown (hts _ kl_RX11_184) (hts _ jm_min_s) (hts _ ki_RJ9) (hts _ jm_min_c) (Nat.le_of_ble_eq_true rfl) (Nat.le_of_ble_eq_true rfl) (Nat.le_of_ble_eq_true rfl) (Nat.le_of_ble_eq_true rfl) dX11_moves_47 ?_
    obtain ⟨hP, hD⟩ := ty_ipPD (E1 := [(mu, .inl (ct 1, 42, .inr (.inl su)))]) (E2 := [(rf_MO mo mw ma mf m0 m1 mu mv u0 u1 iz th mb mn mpt mbg mwr mwk mlf men), (rf_RW ct 0 mw 958 f)]) hP hD rfl ty_mva
    refine ty_Kv hP hD hS hA (va_runV (As := [.int p1, .int 6, .int (if ((rf_of f p1 6) + (((p2 * (f 0)) + (rf_of f p1 16)) / 1000)) < (2 * (rf_of f p1 12)) then ((rf_of f p1 6) + (((p2 * (f 0)) + (rf_of f p1 16)) / 1000)) else (2 * (rf_of f p1 12)))]) (rest := []) ⟨hx, hb, hml, hown, hts⟩ (m_put_6 l D ct S ws_37 ph xx mo mw ma mf m0 m1 mu mv u0 u1 iz mb th mn mpt mbg mwr mwk mlf men f G cx p1 (if ((rf_of f p1 6) + (((p2 * (f 0)) + (rf_of f p1 16)) / 1000)) < (2 * (rf_of f p1 12)) then ((rf_of f p1 6) + (((p2 * (f 0)) + (rf_of f p1 16)) / 1000)) else (2 * (rf_of f p1 12))) _ hT hph hy1 hR hc (rf_mv1 hR hc (rf_all ⟨by have := (cm_lt9 hc_1); rw [Int32.lt_iff_toInt_lt, show (0 : Int32).toInt = 0 from by decide] at this; omega, hi.2⟩ (rf_hs hR).2.2 (rf_lr hR hc)))) (cm_V 3 hts kc_X11_put ki_RX11 kl_RX11_234 kv_X11_put kx_X11_put kd_X11_put ⟨Nat.le_of_ble_eq_true rfl, Nat.le_of_ble_eq_true rfl⟩) (ty_preE (ci := 11) (q0 := 1) hP hK hD hS hA hX rfl rfl) rfl rfl hl.1 rfl (lv_room (Nat.le_of_ble_eq_true rfl)) dX11_moves_50 ⟨Nat.le_of_ble_eq_true rfl, Nat.le_of_ble_eq_true rfl⟩) (fun u H locs hw_39 hP hD hS => ?_)
    obtain ⟨ws_40, f1_41⟩ := u
    obtain ⟨hT, hp_42⟩ := hw_39
    have hp_42 : rf_d (f 8) f f1_41 ∧ rf_R G cx f1_41 ∧ rf_sm f f1_41 ∧ f1_41 = upd f (244 + 54 * p1.toInt.toNat + 6) (if ((rf_of f p1 6) + (((p2 * (f 0)) + (rf_of f p1 16)) / 1000)) < (2 * (rf_of f p1 12)) then ((rf_of f p1 6) + (((p2 * (f 0)) + (rf_of f p1 16)) / 1000)) else (2 * (rf_of f p1 12))) := hp_42
    obtain ⟨hd_43, hq_44⟩ := hp_42
    have hD_45 := rf_dt (rf_dr f) hd_43
    have hR_46 := hq_44.1
    have hM_47 := rf_smt (rf_smr f) hq_44.2.1
    obtain ⟨hP, hD⟩ := ty_shPD (w2 := ([(mu, .inl (ct 1, 42, .inr (.inl su))), (rf_MO mo mw ma mf m0 m1 mu mv u0 u1 iz th mb mn mpt mbg mwr mwk mlf men), (rf_RW ct 0 mw 958 f1_41)] ++ ws_40)) hP hD rfl
    refine lv_aload_n hx hb dX11_moves_53 rfl (lv_at hl 1 rfl) ?_
    refine lv_iload_n hx hb dX11_moves_54 rfl (lv_at hl 2 rfl) ?_
    refine lv_bipush (v := 16) hx hb dX11_moves_55 (by decide) ?_
    refine lv_iload_n hx hb dX11_moves_57 rfl (lv_at hl 0 rfl) ?_
    refine lv_sipush (v := 1000) hx hb dX11_moves_58 (by decide) ?_
    refine lv_irem hx hb dX11_moves_61 (by decide) ?_
    obtain ⟨hP, hD⟩ := ty_ipPD (E1 := [(mu, .inl (ct 1, 42, .inr (.inl su)))]) (E2 := [(rf_MO mo mw ma mf m0 m1 mu mv u0 u1 iz th mb mn mpt mbg mwr mwk mlf men), (rf_RW ct 0 mw 958 f1_41)]) hP hD rfl ty_mva
    refine ty_Kv hP hD hS hA (va_runV (As := [.int p1, .int 16, .int (((p2 * (f 0)) + (rf_of f p1 16)) - ((((p2 * (f 0)) + (rf_of f p1 16)) / 1000) * 1000))]) (rest := []) ⟨hx, hb, hml, hown, hts⟩ (m_put_16 l D ct S ws_40 ph xx mo mw ma mf m0 m1 mu mv u0 u1 iz mb th mn mpt mbg mwr mwk mlf men f1_41 G cx p1 (((p2 * (f 0)) + (rf_of f p1 16)) - ((((p2 * (f 0)) + (rf_of f p1 16)) / 1000) * 1000)) _ hT hph hy1 hR_46 hc (rf_mv2b (rf_all ⟨by have := (cm_lt9 hc_1); rw [Int32.lt_iff_toInt_lt, show (0 : Int32).toInt = 0 from by decide] at this; omega, hi.2⟩ (rf_hs hR).2.2 (rf_lr hR hc)))) (cm_V 3 hts kc_X11_put ki_RX11 kl_RX11_234 kv_X11_put kx_X11_put kd_X11_put ⟨Nat.le_of_ble_eq_true rfl, Nat.le_of_ble_eq_true rfl⟩) (ty_preE (ci := 11) (q0 := 1) hP hK hD hS hA hX rfl rfl) rfl rfl hl.1 rfl (lv_room (Nat.le_of_ble_eq_true rfl)) dX11_moves_62 ⟨Nat.le_of_ble_eq_true rfl, Nat.le_of_ble_eq_true rfl⟩) (fun u H locs hw_49 hP hD hS => ?_)
    obtain ⟨ws_50, f1_51⟩ := u
    obtain ⟨hT, hp_52⟩ := hw_49
    have hp_52 : rf_d (f1_41 8) f1_41 f1_51 ∧ rf_R G cx f1_51 ∧ rf_sm f1_41 f1_51 ∧ f1_51 = upd f1_41 (244 + 54 * p1.toInt.toNat + 16) (((p2 * (f 0)) + (rf_of f p1 16)) - ((((p2 * (f 0)) + (rf_of f p1 16)) / 1000) * 1000)) := hp_52
    obtain ⟨hd_53, hq_54⟩ := hp_52
    have hD_55 := rf_dt hD_45 hd_53
    have hR_56 := hq_54.1
    have hM_57 := rf_smt hM_47 hq_54.2.1
    obtain ⟨hP, hD⟩ := ty_shPD (w2 := ([(mu, .inl (ct 1, 42, .inr (.inl su))), (rf_MO mo mw ma mf m0 m1 mu mv u0 u1 iz th mb mn mpt mbg mwr mwk mlf men), (rf_RW ct 0 mw 958 f1_51)] ++ ws_50)) hP hD rfl
    refine lv_aload_n hx hb dX11_moves_65 rfl (lv_at hl 1 rfl) ?_
    refine lv_iload_n hx hb dX11_moves_66 rfl (lv_at hl 2 rfl) ?_
    refine lv_iconst (v := 0) hx hb dX11_moves_67 (by decide) ?_
    refine lv_iload_n hx hb dX11_moves_68 rfl (lv_at hl 3 rfl) ?_
    refine lv_i2l hx hb dX11_moves_69 rfl ?_
    obtain ⟨hP, hD⟩ := ty_opPD (E1 := [(rf_RW ct 0 mw 958 f1_51)]) (E2 := [(rf_MO mo mw ma mf m0 m1 mu mv u0 u1 iz th mb mn mpt mbg mwr mwk mlf men), (mu, .inl (ct 1, 42, .inr (.inl su)))]) (n := 3) [2, 1, 0] hP hD rfl rfl (by decide +kernel) ty_mva
    refine ty_Kv hP hD hS hA (va_runV (As := [.int p1, .int 0, .long p2.toInt64]) (rest := []) ⟨hx, hb, hml, hown, hts⟩ (m_X11_adds l D ct S ws_50 ph xx mo mw ma mf m0 m1 mu mv u0 u1 iz mb th mn mpt mbg mwr mwk mlf men su p1 (0 : Int32) p2.toInt64 _ hT hph hy1 hy11 (rf_c6 hR_56 hc) (by decide)) (cm_V 3 hts kc_X11_adds ki_RX11 kl_RX11_238 kv_X11_adds kx_X11_adds kd_X11_adds ⟨Nat.le_of_ble_eq_true rfl, Nat.le_of_ble_eq_true rfl⟩) (ty_preE (ci := 11) (q0 := 1) hP hK hD hS hA hX rfl rfl) rfl rfl hl.1 rfl (lv_room (Nat.le_of_ble_eq_true rfl)) dX11_moves_70 ⟨Nat.le_of_ble_eq_true rfl, Nat.le_of_ble_eq_true rfl⟩) (fun u H locs hw_59 hP hD hS => ?_)
    obtain ⟨ws_60, su1_61⟩ := u
    obtain ⟨hT, hp_62⟩ := hw_59
    have hp_62 : (q_X11_adds su p1 (0 : Int32) p2.toInt64 su1_61) := hp_62
    obtain ⟨hP, hD⟩ := ty_shPD (w2 := ([(rf_RW ct 0 mw 958 f1_51), (rf_MO mo mw ma mf m0 m1 mu mv u0 u1 iz th mb mn mpt mbg mwr mwk mlf men), (mu, .inl (ct 1, 42, .inr (.inl su1_61)))] ++ ws_60)) hP hD rfl
    refine lv_aload_n hx hb dX11_moves_73 rfl (lv_at hl 1 rfl) ?_
    refine lv_iload_n hx hb dX11_moves_74 rfl (lv_at hl 2 rfl) ?_
    refine lv_iconst (v := 4) hx hb dX11_moves_75 (by decide) ?_
    refine lv_iload_n hx hb dX11_moves_76 rfl (lv_at hl 3 rfl) ?_
    refine lv_i2l hx hb dX11_moves_77 rfl ?_
    obtain ⟨hP, hD⟩ := ty_ipPD (E1 := [(rf_RW ct 0 mw 958 f1_51)]) (E2 := [(rf_MO mo mw ma mf m0 m1 mu mv u0 u1 iz th mb mn mpt mbg mwr mwk mlf men), (mu, .inl (ct 1, 42, .inr (.inl su1_61)))]) hP hD rfl ty_mva
    refine ty_Kv hP hD hS hA (va_runV (As := [.int p1, .int 4, .long p2.toInt64]) (rest := []) ⟨hx, hb, hml, hown, hts⟩ (m_X11_adds l D ct S ws_60 ph xx mo mw ma mf m0 m1 mu mv u0 u1 iz mb th mn mpt mbg mwr mwk mlf men su1_61 p1 (4 : Int32) p2.toInt64 _ hT hph hy1 hy11 (rf_c6 hR_56 hc) (by decide)) (cm_V 3 hts kc_X11_adds ki_RX11 kl_RX11_238 kv_X11_adds kx_X11_adds kd_X11_adds ⟨Nat.le_of_ble_eq_true rfl, Nat.le_of_ble_eq_true rfl⟩) (ty_preE (ci := 11) (q0 := 1) hP hK hD hS hA hX rfl rfl) rfl rfl hl.1 rfl (lv_room (Nat.le_of_ble_eq_true rfl)) dX11_moves_78 ⟨Nat.le_of_ble_eq_true rfl, Nat.le_of_ble_eq_true rfl⟩) (fun u H locs hw_66 hP hD hS => ?_)
    obtain ⟨ws_67, su1_68⟩ := u
    obtain ⟨hT, hp_69⟩ := hw_66
    have hp_69 : (q_X11_adds su1_61 p1 (4 : Int32) p2.toInt64 su1_68) := hp_69
    obtain ⟨hP, hD⟩ := ty_shPD (w2 := ([(rf_RW ct 0 mw 958 f1_51), (rf_MO mo mw ma mf m0 m1 mu mv u0 u1 iz th mb mn mpt mbg mwr mwk mlf men), (mu, .inl (ct 1, 42, .inr (.inl su1_68)))] ++ ws_67)) hP hD rfl
    refine lv_goto (tgt := 118) hx hb dX11_moves_81 (by decide) ?_
    obtain ⟨hP, hD⟩ := ty_ordPD (E2 := [(rf_MO mo mw ma mf m0 m1 mu mv u0 u1 iz th mb mn mpt mbg mwr mwk mlf men), (rf_RW ct 0 mw 958 f1_51), (mu, .inl (ct 1, 42, .inr (.inl su1_68)))]) (n := 3) [1, 0, 2] hP hD rfl rfl (by decide +kernel)
    exact W.vret hx hb hr (fun t ht hW => ⟨⟨(ws_67, f1_51, su1_68), rfl, ⟨hT, ⟨(Or.inr ⟨hc_1, ⟨f1_41, hq_44.2.2, ⟨f1_51, hq_54.2.2, ⟨su1_61, hp_62, ⟨su1_68, hp_69, ⟨rfl, rfl⟩⟩⟩⟩⟩⟩), ⟨hD_55, hR_56, hM_57⟩⟩⟩, by rw [ht]; exact hP, by rw [hAe]; exact hD⟩, hS.F ht⟩) hS.2.2 dX11_moves_118
def q_X11_fades (f : Nat → Int32) (p1 : Int32) (p2 : Int32) (f1 : Nat → Int32) : Prop := (∃ (y_4 : Int32) (f_5 : Nat → Int32), q_fI f p1 ((rf_of f p1 18) + (if 0 ≤ p2 then p2 else 0 - p2)) y_4 f_5 ∧ (y_4 < (f_5 1) ∧ (∃ (f1_10 : Nat → Int32), f1_10 = upd f_5 (244 + 54 * p1.toInt.toNat + 18) y_4 ∧ (f1 = f1_10))))
set_option maxRecDepth 100000 in
set_option maxHeartbeats 4000000 in
theorem m_X11_fades (l : Launch) (D : va_G) (ct : Nat → ClassId) (S : ty_S) (ws : va_W) (ph : va_W → Prop) (xx : Nat → Nat → Nat → Prop) (mo : Nat) (mw : Nat) (ma : Nat) (mf : Nat) (m0 : Nat) (m1 : Nat) (mu : Nat) (mv : Nat) (u0 : Nat) (u1 : Nat) (iz : Nat) (mb : Nat) (th : Int32) (mn : Int32) (mpt : Int32) (mbg : Int32) (mwr : Int32) (mwk : Int32) (mlf : Int32) (men : Int32) (f : Nat → Int32) (G : Nat → Int32) (cx : Int) (p1 : Int32) (p2 : Int32) (sz : Nat) (hT : ty_V ct S ph ws) (hph : ty_C ph xx) (hy1 : ty_y1 xx) (hR : rf_R G cx f) (hc : 0 ≤ p1.toInt ∧ p1.toInt < (G 9).toInt) : Met l yX11_fades (ws_ yX11_fades cX11_fades 4 none) ({ frames := 1, cells := 0, slots := 0, locals := 23 } : Room) (va_Pc [.ref mo, .int p1, .int p2] (cmP D ct sz ([(rf_MO mo mw ma mf m0 m1 mu mv u0 u1 iz th mb mn mpt mbg mwr mwk mlf men), (rf_RW ct 0 mw 958 f)] ++ ws))) (va_Qv (fun (u : va_W × (Nat → Int32)) => match u with | (u9, f1) => ty_V ct S ph u9 ∧ (q_X11_fades f p1 p2 f1) ∧ rf_d (f 8) f f1 ∧ rf_R G cx f1 ∧ rf_sm f f1) (cmB D ([(rf_MO mo mw ma mf m0 m1 mu mv u0 u1 iz th mb mn mpt mbg mwr mwk mlf men), (rf_RW ct 0 mw 958 f)] ++ ws) sz (fun (u : va_W × (Nat → Int32)) => match u with | (u9, f1) => ([(rf_MO mo mw ma mf m0 m1 mu mv u0 u1 iz th mb mn mpt mbg mwr mwk mlf men), (rf_RW ct 0 mw 958 f1)] ++ u9))) (va_A ([(rf_MO mo mw ma mf m0 m1 mu mv u0 u1 iz th mb mn mpt mbg mwr mwk mlf men), (rf_RW ct 0 mw 958 f)] ++ ws) sz)) 0 0 (va_A ([(rf_MO mo mw ma mf m0 m1 mu mv u0 u1 iz th mb mn mpt mbg mwr mwk mlf men), (rf_RW ct 0 mw 958 f)] ++ ws) sz) := by
  refine Met.ofW (cc := cX11_fades) (maxL := 4) (ret := none) (by decide) rfl ?_
  intro p e s m args below meth c s₁ B hml hv
  obtain ⟨rfl, hsz, hP, hK, hD0, hX⟩ := hv
  have hx := B.exec
  have hb := B.bytes
  have hr := B.returns
  have hts := ws_all (atoms_spec (ws := ws_ yX11_fades cX11_fades 4 none) B.pre)
  have hown : s.vm.findClass RX11 = some m.cls := findClass_of_methodNamed B.named
  have hlocks := B.notSynchronized
  subst hsz
  have hD := hD0.self (sz := s.heap.size)
  generalize hAe : va_A ([(rf_MO mo mw ma mf m0 m1 mu mv u0 u1 iz th mb mn mpt mbg mwr mwk mlf men), (rf_RW ct 0 mw 958 f)] ++ ws) s.heap.size = A at hD hX ⊢
  have hA : ∀ q : Nat, s.heap.size ≤ q → A q := fun q h => by rw [← hAe]; exact Or.inr h
  have hS : va_S A s.heap s.heap [] := va_S.rf
  have hl := lv_entry ([.ref mo, .int p1, .int p2]) (n := 4) (Nat.le_of_ble_eq_true rfl)
  rw [lg_entry_eq]
  generalize (lg_sl ([.ref mo, .int p1, .int p2]) ++ List.replicate (4 - (lg_sl ([.ref mo, .int p1, .int p2])).length) Slot.unset).toArray = ls at hl ⊢
  have hl : lv_has ls 4 [(0, .ref mo), (1, .int p1), (2, .int p2)] := hl
  refine lv_aload_n hx hb dX11_fades_0 rfl (lv_at hl 0 rfl) ?_
  refine lv_iload_n hx hb dX11_fades_1 rfl (lv_at hl 1 rfl) ?_
  refine lv_bipush (v := 18) hx hb dX11_fades_2 (by decide) ?_
  obtain ⟨hP, hD⟩ := ty_ipPD (E1 := []) (E2 := [(rf_MO mo mw ma mf m0 m1 mu mv u0 u1 iz th mb mn mpt mbg mwr mwk mlf men), (rf_RW ct 0 mw 958 f)]) hP hD rfl ty_mva
  refine ty_Ki hP hD hS hA (va_runV (As := [.int p1, .int 18]) (rest := []) ⟨hx, hb, hml, hown, hts⟩ (m_of_18 l D ct S ws ph xx mo mw ma mf m0 m1 mu mv u0 u1 iz mb th mn mpt mbg mwr mwk mlf men f G cx p1 _ hT hph hy1 hR hc) (cm_V 2 hts kc_X11_of ki_RX11 kl_RX11_209 kv_X11_of kx_X11_of kd_X11_of ⟨Nat.le_of_ble_eq_true rfl, Nat.le_of_ble_eq_true rfl⟩) (ty_preE (ci := 11) (q0 := 0) hP hK hD hS hA hX rfl rfl) rfl rfl hl.1 rfl (lv_room (Nat.le_of_ble_eq_true rfl)) dX11_fades_4 ⟨Nat.le_of_ble_eq_true rfl, Nat.le_of_ble_eq_true rfl⟩) (fun r_1 u H locs hw_2 hP hD hS => ?_)
  obtain ⟨ws_3, rfl⟩ : ∃ z, z = u := ⟨_, rfl⟩
  obtain ⟨hT, rfl⟩ := hw_2
  obtain ⟨hP, hD⟩ := ty_shPD (w2 := ([(rf_MO mo mw ma mf m0 m1 mu mv u0 u1 iz th mb mn mpt mbg mwr mwk mlf men), (rf_RW ct 0 mw 958 f)] ++ ws_3)) hP hD rfl
  refine lv_iload_n hx hb dX11_fades_7 rfl (lv_at hl 2 rfl) ?_
  refine va_mabs hx hb (hml.trans hl.1.symm) hown (hts _ kl_RX11_242) (hts _ jm_abs_s) (hts _ ki_RJ9) (hts _ jm_abs_c) (Nat.le_of_ble_eq_true rfl) (Nat.le_of_ble_eq_true rfl) (Nat.le_of_ble_eq_true rfl) (Nat.le_of_ble_eq_true rfl) dX11_fades_8 ?_
  refine lv_iadd hx hb dX11_fades_11 ?_
  refine lv_istore_n (lv' := [(3, .int ((rf_of f p1 18) + (if 0 ≤ p2 then p2 else 0 - p2))), (0, .ref mo), (1, .int p1), (2, .int p2)]) hx hb dX11_fades_12 rfl hl (by decide) rfl (fun ls hl => ?_)
  refine ty_loop (I := fun μ H locs ls => ∃ (ws : va_W) (y_4 : Int32) (f_5 : Nat → Int32), μ = y_4.toInt.toNat ∧ ty_V ct S ph ws ∧ va_P D vwCl ([(rf_MO mo mw ma mf m0 m1 mu mv u0 u1 iz th mb mn mpt mbg mwr mwk mlf men), (rf_RW ct 0 mw 958 f_5)] ++ ws) H ∧ va_D A ([(rf_MO mo mw ma mf m0 m1 mu mv u0 u1 iz th mb mn mpt mbg mwr mwk mlf men), (rf_RW ct 0 mw 958 f_5)] ++ ws) ∧ va_S A s.heap H locs ∧ lv_has ls 4 [(0, .ref mo), (1, .int p1), (2, .int p2), (3, .int y_4)] ∧ rf_R G cx f_5 ∧ rf_sm f f_5 ∧ rf_d (f 8) f f_5 ∧ q_fI f p1 ((rf_of f p1 18) + (if 0 ≤ p2 then p2 else 0 - p2)) y_4 f_5) ⟨_, ws_3, ((rf_of f p1 18) + (if 0 ≤ p2 then p2 else 0 - p2)), f, rfl, hT, hP, hD, hS, (lv_sub hl [1, 2, 3, 0] rfl), hR, (rf_smr f), (rf_dr f), q_fI0⟩ (fun μ H locs ls hI ih_13 => ?_)
  obtain ⟨ws, y_4, f_5, rfl, hT, hP, hD, hS, hl, hR_13, hM_13, hD_13, hex_13⟩ := hI
  refine lv_iload_n hx hb dX11_fades_13 rfl (lv_at hl 3 rfl) ?_
  refine lv_aload_n hx hb dX11_fades_14 rfl (lv_at hl 0 rfl) ?_
  refine va_get (v := .ref mw) (D := D) (ci := 11) (C := RX11) (T := TX11) (N := 19) hx hb hts in_X11 hown hK hP 0 rfl rfl 0 (by decide) (hts _ kl_RX11_9) (fun _ h9 => h9) rfl dX11_fades_15 ?_
  refine lv_iconst (v := 1) hx hb dX11_fades_18 (by decide) ?_
  refine va_iald hx hb hK hP 1 0 rfl rfl (cm_vin (by decide)) dX11_fades_19 ?_
  refine cm_cst (y := (f_5 1)) (by first | rfl | decide +kernel) ?_
  refine lv_icmp_lt (tgt := 63) hx hb dX11_fades_20 (by decide) (fun hc_6 => ?_) (fun hc_6 => ?_)
  · refine lv_aload_n hx hb dX11_fades_63 rfl (lv_at hl 0 rfl) ?_
    refine lv_iload_n hx hb dX11_fades_64 rfl (lv_at hl 1 rfl) ?_
    refine lv_bipush (v := 18) hx hb dX11_fades_65 (by decide) ?_
    refine lv_iload_n hx hb dX11_fades_67 rfl (lv_at hl 3 rfl) ?_
    obtain ⟨hP, hD⟩ := ty_ipPD (E1 := []) (E2 := [(rf_MO mo mw ma mf m0 m1 mu mv u0 u1 iz th mb mn mpt mbg mwr mwk mlf men), (rf_RW ct 0 mw 958 f_5)]) hP hD rfl ty_mva
    refine ty_Kv hP hD hS hA (va_runV (As := [.int p1, .int 18, .int y_4]) (rest := []) ⟨hx, hb, hml, hown, hts⟩ (m_put_18 l D ct S ws ph xx mo mw ma mf m0 m1 mu mv u0 u1 iz mb th mn mpt mbg mwr mwk mlf men f_5 G cx p1 y_4 _ hT hph hy1 hR_13 hc) (cm_V 3 hts kc_X11_put ki_RX11 kl_RX11_234 kv_X11_put kx_X11_put kd_X11_put ⟨Nat.le_of_ble_eq_true rfl, Nat.le_of_ble_eq_true rfl⟩) (ty_preE (ci := 11) (q0 := 0) hP hK hD hS hA hX rfl rfl) rfl rfl hl.1 rfl (lv_room (Nat.le_of_ble_eq_true rfl)) dX11_fades_68 ⟨Nat.le_of_ble_eq_true rfl, Nat.le_of_ble_eq_true rfl⟩) (fun u H locs hw_8 hP hD hS => ?_)
    obtain ⟨ws_9, f1_10⟩ := u
    obtain ⟨hT, hp_11⟩ := hw_8
    have hp_11 : rf_d (f_5 8) f_5 f1_10 ∧ rf_R G cx f1_10 ∧ rf_sm f_5 f1_10 ∧ f1_10 = upd f_5 (244 + 54 * p1.toInt.toNat + 18) y_4 := hp_11
    obtain ⟨hd_12, hq_13⟩ := hp_11
    have hD_14 := rf_dt hD_13 hd_12
    have hR_15 := hq_13.1
    have hM_16 := rf_smt hM_13 hq_13.2.1
    obtain ⟨hP, hD⟩ := ty_shPD (w2 := ([(rf_MO mo mw ma mf m0 m1 mu mv u0 u1 iz th mb mn mpt mbg mwr mwk mlf men), (rf_RW ct 0 mw 958 f1_10)] ++ ws_9)) hP hD rfl
    exact W.vret hx hb hr (fun t ht hW => ⟨⟨(ws_9, f1_10), rfl, ⟨hT, ⟨⟨y_4, f_5, hex_13, ⟨hc_6, ⟨f1_10, hq_13.2.2, rfl⟩⟩⟩, ⟨hD_14, hR_15, hM_16⟩⟩⟩, by rw [ht]; exact hP, by rw [hAe]; exact hD⟩, hS.F ht⟩) hS.2.2 dX11_fades_71
  · refine lv_iload_n hx hb dX11_fades_23 rfl (lv_at hl 3 rfl) ?_
    refine lv_aload_n hx hb dX11_fades_24 rfl (lv_at hl 0 rfl) ?_
    refine va_get (v := .ref mw) (D := D) (ci := 11) (C := RX11) (T := TX11) (N := 19) hx hb hts in_X11 hown hK hP 0 rfl rfl 0 (by decide) (hts _ kl_RX11_9) (fun _ h9 => h9) rfl dX11_fades_25 ?_
    refine lv_iconst (v := 1) hx hb dX11_fades_28 (by decide) ?_
    refine va_iald hx hb hK hP 1 0 rfl rfl (cm_vin (by decide)) dX11_fades_29 ?_
    refine cm_cst (y := (f_5 1)) (by first | rfl | decide +kernel) ?_
    refine lv_isub hx hb dX11_fades_30 ?_
    refine lv_istore_n (lv' := [(3, .int (y_4 - (f_5 1))), (0, .ref mo), (1, .int p1), (2, .int p2)]) hx hb dX11_fades_31 rfl hl (by decide) rfl (fun ls hl => ?_)
    refine lv_aload_n hx hb dX11_fades_32 rfl (lv_at hl 1 rfl) ?_
    refine lv_iload_n hx hb dX11_fades_33 rfl (lv_at hl 2 rfl) ?_
    refine lv_bipush (v := 7) hx hb dX11_fades_34 (by decide) ?_
    refine lv_aload_n hx hb dX11_fades_36 rfl (lv_at hl 1 rfl) ?_
    refine lv_iload_n hx hb dX11_fades_37 rfl (lv_at hl 2 rfl) ?_
    refine lv_bipush (v := 12) hx hb dX11_fades_38 (by decide) ?_
    obtain ⟨hP, hD⟩ := ty_ipPD (E1 := []) (E2 := [(rf_MO mo mw ma mf m0 m1 mu mv u0 u1 iz th mb mn mpt mbg mwr mwk mlf men), (rf_RW ct 0 mw 958 f_5)]) hP hD rfl ty_mva
    refine ty_Ki hP hD hS hA (va_runV (As := [.int p1, .int 12]) (rest := [.int 7, .int p1, .ref mo]) ⟨hx, hb, hml, hown, hts⟩ (m_of_12 l D ct S ws ph xx mo mw ma mf m0 m1 mu mv u0 u1 iz mb th mn mpt mbg mwr mwk mlf men f_5 G cx p1 _ hT hph hy1 hR_13 hc) (cm_V 2 hts kc_X11_of ki_RX11 kl_RX11_209 kv_X11_of kx_X11_of kd_X11_of ⟨Nat.le_of_ble_eq_true rfl, Nat.le_of_ble_eq_true rfl⟩) (ty_preE (ci := 11) (q0 := 0) hP hK hD hS hA hX rfl rfl) rfl rfl hl.1 rfl (lv_room (Nat.le_of_ble_eq_true rfl)) dX11_fades_40 ⟨Nat.le_of_ble_eq_true rfl, Nat.le_of_ble_eq_true rfl⟩) (fun r_17 u H locs hw_18 hP hD hS => ?_)
    obtain ⟨ws_19, rfl⟩ : ∃ z, z = u := ⟨_, rfl⟩
    obtain ⟨hT, rfl⟩ := hw_18
    obtain ⟨hP, hD⟩ := ty_shPD (w2 := ([(rf_MO mo mw ma mf m0 m1 mu mv u0 u1 iz th mb mn mpt mbg mwr mwk mlf men), (rf_RW ct 0 mw 958 f_5)] ++ ws_19)) hP hD rfl
    refine lv_iconst (v := 2) hx hb dX11_fades_43 (by decide) ?_
    refine lv_idiv hx hb dX11_fades_44 (by decide) ?_
    refine lv_aload_n hx hb dX11_fades_45 rfl (lv_at hl 1 rfl) ?_
    refine lv_iload_n hx hb dX11_fades_46 rfl (lv_at hl 2 rfl) ?_
    refine lv_bipush (v := 7) hx hb dX11_fades_47 (by decide) ?_
    obtain ⟨hP, hD⟩ := ty_ipPD (E1 := []) (E2 := [(rf_MO mo mw ma mf m0 m1 mu mv u0 u1 iz th mb mn mpt mbg mwr mwk mlf men), (rf_RW ct 0 mw 958 f_5)]) hP hD rfl ty_mva
    refine ty_Ki hP hD hS hA (va_runV (As := [.int p1, .int 7]) (rest := [.int ((rf_of f_5 p1 12) / 2), .int 7, .int p1, .ref mo]) ⟨hx, hb, hml, hown, hts⟩ (m_of_7 l D ct S ws_19 ph xx mo mw ma mf m0 m1 mu mv u0 u1 iz mb th mn mpt mbg mwr mwk mlf men f_5 G cx p1 _ hT hph hy1 hR_13 hc) (cm_V 2 hts kc_X11_of ki_RX11 kl_RX11_209 kv_X11_of kx_X11_of kd_X11_of ⟨Nat.le_of_ble_eq_true rfl, Nat.le_of_ble_eq_true rfl⟩) (ty_preE (ci := 11) (q0 := 0) hP hK hD hS hA hX rfl rfl) rfl rfl hl.1 rfl (lv_room (Nat.le_of_ble_eq_true rfl)) dX11_fades_49 ⟨Nat.le_of_ble_eq_true rfl, Nat.le_of_ble_eq_true rfl⟩) (fun r_20 u H locs hw_21 hP hD hS => ?_)
    obtain ⟨ws_22, rfl⟩ : ∃ z, z = u := ⟨_, rfl⟩
    obtain ⟨hT, rfl⟩ := hw_21
    obtain ⟨hP, hD⟩ := ty_shPD (w2 := ([(rf_MO mo mw ma mf m0 m1 mu mv u0 u1 iz th mb mn mpt mbg mwr mwk mlf men), (rf_RW ct 0 mw 958 f_5)] ++ ws_22)) hP hD rfl
    refine lv_iconst (v := 1) hx hb dX11_fades_52 (by decide) ?_
    refine lv_isub hx hb dX11_fades_53 ?_
    refine va_mmax hx hb (hml.trans hl.1.symm) hown (hts _ kl_RX11_225) (hts _ jm_max_s) (hts _ ki_RJ9) (hts _ jm_max_c) (Nat.le_of_ble_eq_true rfl) (Nat.le_of_ble_eq_true rfl) (Nat.le_of_ble_eq_true rfl) (Nat.le_of_ble_eq_true rfl) dX11_fades_54 ?_
    obtain ⟨hP, hD⟩ := ty_ipPD (E1 := []) (E2 := [(rf_MO mo mw ma mf m0 m1 mu mv u0 u1 iz th mb mn mpt mbg mwr mwk mlf men), (rf_RW ct 0 mw 958 f_5)]) hP hD rfl ty_mva
    refine ty_Kv hP hD hS hA (va_runV (As := [.int p1, .int 7, .int (if ((rf_of f_5 p1 12) / 2) < ((rf_of f_5 p1 7) - 1) then ((rf_of f_5 p1 7) - 1) else ((rf_of f_5 p1 12) / 2))]) (rest := []) ⟨hx, hb, hml, hown, hts⟩ (m_put_7 l D ct S ws_22 ph xx mo mw ma mf m0 m1 mu mv u0 u1 iz mb th mn mpt mbg mwr mwk mlf men f_5 G cx p1 (if ((rf_of f_5 p1 12) / 2) < ((rf_of f_5 p1 7) - 1) then ((rf_of f_5 p1 7) - 1) else ((rf_of f_5 p1 12) / 2)) _ hT hph hy1 hR_13 hc (rf_fp hR_13 hc)) (cm_V 3 hts kc_X11_put ki_RX11 kl_RX11_234 kv_X11_put kx_X11_put kd_X11_put ⟨Nat.le_of_ble_eq_true rfl, Nat.le_of_ble_eq_true rfl⟩) (ty_preE (ci := 11) (q0 := 0) hP hK hD hS hA hX rfl rfl) rfl rfl hl.1 rfl (lv_room (Nat.le_of_ble_eq_true rfl)) dX11_fades_57 ⟨Nat.le_of_ble_eq_true rfl, Nat.le_of_ble_eq_true rfl⟩) (fun u H locs hw_24 hP hD hS => ?_)
    obtain ⟨ws_25, f1_26⟩ := u
    obtain ⟨hT, hp_27⟩ := hw_24
    have hp_27 : rf_d (f_5 8) f_5 f1_26 ∧ rf_R G cx f1_26 ∧ rf_sm f_5 f1_26 ∧ f1_26 = upd f_5 (244 + 54 * p1.toInt.toNat + 7) (if ((rf_of f_5 p1 12) / 2) < ((rf_of f_5 p1 7) - 1) then ((rf_of f_5 p1 7) - 1) else ((rf_of f_5 p1 12) / 2)) := hp_27
    obtain ⟨hd_28, hq_29⟩ := hp_27
    have hD_30 := rf_dt hD_13 hd_28
    have hR_31 := hq_29.1
    have hM_32 := rf_smt hM_13 hq_29.2.1
    obtain ⟨hP, hD⟩ := ty_shPD (w2 := ([(rf_MO mo mw ma mf m0 m1 mu mv u0 u1 iz th mb mn mpt mbg mwr mwk mlf men), (rf_RW ct 0 mw 958 f1_26)] ++ ws_25)) hP hD rfl
    refine lv_goto (tgt := 13) hx hb dX11_fades_60 (by decide) ?_
    exact ih_13 _ _ _ _ (rf_fd hc_6 (rf_set hR_13 hc).1) ⟨ws_25, (y_4 - (f_5 1)), f1_26, rfl, hT, hP, hD, hS, (lv_sub hl [1, 2, 3, 0] rfl), hR_31, hM_32, hD_30, (q_fIs hex_13 hc_6 hq_29.2.2)⟩
def q_X11_warms (f : Nat → Int32) (p1 : Int32) (p2 : Int32) (f1 : Nat → Int32) : Prop := (∃ (f1_16 : Nat → Int32), f1_16 = upd f (244 + 54 * p1.toInt.toNat + 9) ((rf_of f p1 9) + ((((rf_of f p1 17) + ((((p2 * p2) / 1000) * (rf_of f p1 13)) / 1000)) - (((rf_of f p1 9) - (f 7)) * (f 3))) / (f 2))) ∧ (∃ (f1_26 : Nat → Int32), f1_26 = upd f1_16 (244 + 54 * p1.toInt.toNat + 17) ((((rf_of f p1 17) + ((((p2 * p2) / 1000) * (rf_of f p1 13)) / 1000)) - (((rf_of f p1 9) - (f 7)) * (f 3))) - (((((rf_of f p1 17) + ((((p2 * p2) / 1000) * (rf_of f p1 13)) / 1000)) - (((rf_of f p1 9) - (f 7)) * (f 3))) / (f1_16 2)) * (f1_16 2))) ∧ (f1 = f1_26)))
set_option maxRecDepth 100000 in
set_option maxHeartbeats 4000000 in
theorem m_X11_warms (l : Launch) (D : va_G) (ct : Nat → ClassId) (S : ty_S) (ws : va_W) (ph : va_W → Prop) (xx : Nat → Nat → Nat → Prop) (mo : Nat) (mw : Nat) (ma : Nat) (mf : Nat) (m0 : Nat) (m1 : Nat) (mu : Nat) (mv : Nat) (u0 : Nat) (u1 : Nat) (iz : Nat) (mb : Nat) (th : Int32) (mn : Int32) (mpt : Int32) (mbg : Int32) (mwr : Int32) (mwk : Int32) (mlf : Int32) (men : Int32) (f : Nat → Int32) (G : Nat → Int32) (cx : Int) (p1 : Int32) (p2 : Int32) (sz : Nat) (hT : ty_V ct S ph ws) (hph : ty_C ph xx) (hy1 : ty_y1 xx) (hR : rf_R G cx f) (hc : 0 ≤ p1.toInt ∧ p1.toInt < (G 9).toInt) : Met l yX11_warms (ws_ yX11_warms cX11_warms 4 none) ({ frames := 1, cells := 0, slots := 0, locals := 23 } : Room) (va_Pc [.ref mo, .int p1, .int p2] (cmP D ct sz ([(rf_MO mo mw ma mf m0 m1 mu mv u0 u1 iz th mb mn mpt mbg mwr mwk mlf men), (rf_RW ct 0 mw 958 f)] ++ ws))) (va_Qv (fun (u : va_W × (Nat → Int32)) => match u with | (u9, f1) => ty_V ct S ph u9 ∧ (q_X11_warms f p1 p2 f1) ∧ rf_d (f 8) f f1 ∧ rf_R G cx f1 ∧ rf_sm f f1) (cmB D ([(rf_MO mo mw ma mf m0 m1 mu mv u0 u1 iz th mb mn mpt mbg mwr mwk mlf men), (rf_RW ct 0 mw 958 f)] ++ ws) sz (fun (u : va_W × (Nat → Int32)) => match u with | (u9, f1) => ([(rf_MO mo mw ma mf m0 m1 mu mv u0 u1 iz th mb mn mpt mbg mwr mwk mlf men), (rf_RW ct 0 mw 958 f1)] ++ u9))) (va_A ([(rf_MO mo mw ma mf m0 m1 mu mv u0 u1 iz th mb mn mpt mbg mwr mwk mlf men), (rf_RW ct 0 mw 958 f)] ++ ws) sz)) 0 0 (va_A ([(rf_MO mo mw ma mf m0 m1 mu mv u0 u1 iz th mb mn mpt mbg mwr mwk mlf men), (rf_RW ct 0 mw 958 f)] ++ ws) sz) := by
  refine Met.ofW (cc := cX11_warms) (maxL := 4) (ret := none) (by decide) rfl ?_
  intro p e s m args below meth c s₁ B hml hv
  obtain ⟨rfl, hsz, hP, hK, hD0, hX⟩ := hv
  have hx := B.exec
  have hb := B.bytes
  have hr := B.returns
  have hts := ws_all (atoms_spec (ws := ws_ yX11_warms cX11_warms 4 none) B.pre)
  have hown : s.vm.findClass RX11 = some m.cls := findClass_of_methodNamed B.named
  have hlocks := B.notSynchronized
  subst hsz
  have hD := hD0.self (sz := s.heap.size)
  generalize hAe : va_A ([(rf_MO mo mw ma mf m0 m1 mu mv u0 u1 iz th mb mn mpt mbg mwr mwk mlf men), (rf_RW ct 0 mw 958 f)] ++ ws) s.heap.size = A at hD hX ⊢
  have hA : ∀ q : Nat, s.heap.size ≤ q → A q := fun q h => by rw [← hAe]; exact Or.inr h
  have hS : va_S A s.heap s.heap [] := va_S.rf
  have hl := lv_entry ([.ref mo, .int p1, .int p2]) (n := 4) (Nat.le_of_ble_eq_true rfl)
  rw [lg_entry_eq]
  generalize (lg_sl ([.ref mo, .int p1, .int p2]) ++ List.replicate (4 - (lg_sl ([.ref mo, .int p1, .int p2])).length) Slot.unset).toArray = ls at hl ⊢
  have hl : lv_has ls 4 [(0, .ref mo), (1, .int p1), (2, .int p2)] := hl
  refine lv_aload_n hx hb dX11_warms_0 rfl (lv_at hl 0 rfl) ?_
  refine lv_iload_n hx hb dX11_warms_1 rfl (lv_at hl 1 rfl) ?_
  refine lv_bipush (v := 17) hx hb dX11_warms_2 (by decide) ?_
  obtain ⟨hP, hD⟩ := ty_ipPD (E1 := []) (E2 := [(rf_MO mo mw ma mf m0 m1 mu mv u0 u1 iz th mb mn mpt mbg mwr mwk mlf men), (rf_RW ct 0 mw 958 f)]) hP hD rfl ty_mva
  refine ty_Ki hP hD hS hA (va_runV (As := [.int p1, .int 17]) (rest := []) ⟨hx, hb, hml, hown, hts⟩ (m_of_17 l D ct S ws ph xx mo mw ma mf m0 m1 mu mv u0 u1 iz mb th mn mpt mbg mwr mwk mlf men f G cx p1 _ hT hph hy1 hR hc) (cm_V 2 hts kc_X11_of ki_RX11 kl_RX11_209 kv_X11_of kx_X11_of kd_X11_of ⟨Nat.le_of_ble_eq_true rfl, Nat.le_of_ble_eq_true rfl⟩) (ty_preE (ci := 11) (q0 := 0) hP hK hD hS hA hX rfl rfl) rfl rfl hl.1 rfl (lv_room (Nat.le_of_ble_eq_true rfl)) dX11_warms_4 ⟨Nat.le_of_ble_eq_true rfl, Nat.le_of_ble_eq_true rfl⟩) (fun r_1 u H locs hw_2 hP hD hS => ?_)
  obtain ⟨ws_3, rfl⟩ : ∃ z, z = u := ⟨_, rfl⟩
  obtain ⟨hT, rfl⟩ := hw_2
  obtain ⟨hP, hD⟩ := ty_shPD (w2 := ([(rf_MO mo mw ma mf m0 m1 mu mv u0 u1 iz th mb mn mpt mbg mwr mwk mlf men), (rf_RW ct 0 mw 958 f)] ++ ws_3)) hP hD rfl
  refine lv_iload_n hx hb dX11_warms_7 rfl (lv_at hl 2 rfl) ?_
  refine lv_iload_n hx hb dX11_warms_8 rfl (lv_at hl 2 rfl) ?_
  refine lv_imul hx hb dX11_warms_9 ?_
  refine lv_sipush (v := 1000) hx hb dX11_warms_10 (by decide) ?_
  refine lv_idiv hx hb dX11_warms_13 (by decide) ?_
  refine lv_aload_n hx hb dX11_warms_14 rfl (lv_at hl 0 rfl) ?_
  refine lv_iload_n hx hb dX11_warms_15 rfl (lv_at hl 1 rfl) ?_
  refine lv_bipush (v := 13) hx hb dX11_warms_16 (by decide) ?_
  obtain ⟨hP, hD⟩ := ty_ipPD (E1 := []) (E2 := [(rf_MO mo mw ma mf m0 m1 mu mv u0 u1 iz th mb mn mpt mbg mwr mwk mlf men), (rf_RW ct 0 mw 958 f)]) hP hD rfl ty_mva
  refine ty_Ki hP hD hS hA (va_runV (As := [.int p1, .int 13]) (rest := [.int ((p2 * p2) / 1000), .int (rf_of f p1 17)]) ⟨hx, hb, hml, hown, hts⟩ (m_of_13 l D ct S ws_3 ph xx mo mw ma mf m0 m1 mu mv u0 u1 iz mb th mn mpt mbg mwr mwk mlf men f G cx p1 _ hT hph hy1 hR hc) (cm_V 2 hts kc_X11_of ki_RX11 kl_RX11_209 kv_X11_of kx_X11_of kd_X11_of ⟨Nat.le_of_ble_eq_true rfl, Nat.le_of_ble_eq_true rfl⟩) (ty_preE (ci := 11) (q0 := 0) hP hK hD hS hA hX rfl rfl) rfl rfl hl.1 rfl (lv_room (Nat.le_of_ble_eq_true rfl)) dX11_warms_18 ⟨Nat.le_of_ble_eq_true rfl, Nat.le_of_ble_eq_true rfl⟩) (fun r_4 u H locs hw_5 hP hD hS => ?_)
  obtain ⟨ws_6, rfl⟩ : ∃ z, z = u := ⟨_, rfl⟩
  obtain ⟨hT, rfl⟩ := hw_5
  obtain ⟨hP, hD⟩ := ty_shPD (w2 := ([(rf_MO mo mw ma mf m0 m1 mu mv u0 u1 iz th mb mn mpt mbg mwr mwk mlf men), (rf_RW ct 0 mw 958 f)] ++ ws_6)) hP hD rfl
  refine lv_imul hx hb dX11_warms_21 ?_
  refine lv_sipush (v := 1000) hx hb dX11_warms_22 (by decide) ?_
  refine lv_idiv hx hb dX11_warms_25 (by decide) ?_
  refine lv_iadd hx hb dX11_warms_26 ?_
  refine lv_aload_n hx hb dX11_warms_27 rfl (lv_at hl 0 rfl) ?_
  refine lv_iload_n hx hb dX11_warms_28 rfl (lv_at hl 1 rfl) ?_
  refine lv_bipush (v := 9) hx hb dX11_warms_29 (by decide) ?_
  obtain ⟨hP, hD⟩ := ty_ipPD (E1 := []) (E2 := [(rf_MO mo mw ma mf m0 m1 mu mv u0 u1 iz th mb mn mpt mbg mwr mwk mlf men), (rf_RW ct 0 mw 958 f)]) hP hD rfl ty_mva
  refine ty_Ki hP hD hS hA (va_runV (As := [.int p1, .int 9]) (rest := [.int ((rf_of f p1 17) + ((((p2 * p2) / 1000) * (rf_of f p1 13)) / 1000))]) ⟨hx, hb, hml, hown, hts⟩ (m_of_9 l D ct S ws_6 ph xx mo mw ma mf m0 m1 mu mv u0 u1 iz mb th mn mpt mbg mwr mwk mlf men f G cx p1 _ hT hph hy1 hR hc) (cm_V 2 hts kc_X11_of ki_RX11 kl_RX11_209 kv_X11_of kx_X11_of kd_X11_of ⟨Nat.le_of_ble_eq_true rfl, Nat.le_of_ble_eq_true rfl⟩) (ty_preE (ci := 11) (q0 := 0) hP hK hD hS hA hX rfl rfl) rfl rfl hl.1 rfl (lv_room (Nat.le_of_ble_eq_true rfl)) dX11_warms_31 ⟨Nat.le_of_ble_eq_true rfl, Nat.le_of_ble_eq_true rfl⟩) (fun r_7 u H locs hw_8 hP hD hS => ?_)
  obtain ⟨ws_9, rfl⟩ : ∃ z, z = u := ⟨_, rfl⟩
  obtain ⟨hT, rfl⟩ := hw_8
  obtain ⟨hP, hD⟩ := ty_shPD (w2 := ([(rf_MO mo mw ma mf m0 m1 mu mv u0 u1 iz th mb mn mpt mbg mwr mwk mlf men), (rf_RW ct 0 mw 958 f)] ++ ws_9)) hP hD rfl
  refine lv_aload_n hx hb dX11_warms_34 rfl (lv_at hl 0 rfl) ?_
  refine va_get (v := .ref mw) (D := D) (ci := 11) (C := RX11) (T := TX11) (N := 19) hx hb hts in_X11 hown hK hP 0 rfl rfl 0 (by decide) (hts _ kl_RX11_9) (fun _ h9 => h9) rfl dX11_warms_35 ?_
  refine lv_bipush (v := 7) hx hb dX11_warms_38 (by decide) ?_
  refine va_iald hx hb hK hP 1 0 rfl rfl (cm_vin (by decide)) dX11_warms_40 ?_
  refine cm_cst (y := (f 7)) (by first | rfl | decide +kernel) ?_
  refine lv_isub hx hb dX11_warms_41 ?_
  refine lv_aload_n hx hb dX11_warms_42 rfl (lv_at hl 0 rfl) ?_
  refine va_get (v := .ref mw) (D := D) (ci := 11) (C := RX11) (T := TX11) (N := 19) hx hb hts in_X11 hown hK hP 0 rfl rfl 0 (by decide) (hts _ kl_RX11_9) (fun _ h9 => h9) rfl dX11_warms_43 ?_
  refine lv_iconst (v := 3) hx hb dX11_warms_46 (by decide) ?_
  refine va_iald hx hb hK hP 1 0 rfl rfl (cm_vin (by decide)) dX11_warms_47 ?_
  refine cm_cst (y := (f 3)) (by first | rfl | decide +kernel) ?_
  refine lv_imul hx hb dX11_warms_48 ?_
  refine lv_isub hx hb dX11_warms_49 ?_
  refine lv_istore_n (lv' := [(3, .int (((rf_of f p1 17) + ((((p2 * p2) / 1000) * (rf_of f p1 13)) / 1000)) - (((rf_of f p1 9) - (f 7)) * (f 3)))), (0, .ref mo), (1, .int p1), (2, .int p2)]) hx hb dX11_warms_50 rfl hl (by decide) rfl (fun ls hl => ?_)
  refine lv_aload_n hx hb dX11_warms_51 rfl (lv_at hl 1 rfl) ?_
  refine lv_iload_n hx hb dX11_warms_52 rfl (lv_at hl 2 rfl) ?_
  refine lv_bipush (v := 9) hx hb dX11_warms_53 (by decide) ?_
  refine lv_aload_n hx hb dX11_warms_55 rfl (lv_at hl 1 rfl) ?_
  refine lv_iload_n hx hb dX11_warms_56 rfl (lv_at hl 2 rfl) ?_
  refine lv_bipush (v := 9) hx hb dX11_warms_57 (by decide) ?_
  obtain ⟨hP, hD⟩ := ty_ipPD (E1 := []) (E2 := [(rf_MO mo mw ma mf m0 m1 mu mv u0 u1 iz th mb mn mpt mbg mwr mwk mlf men), (rf_RW ct 0 mw 958 f)]) hP hD rfl ty_mva
  refine ty_Ki hP hD hS hA (va_runV (As := [.int p1, .int 9]) (rest := [.int 9, .int p1, .ref mo]) ⟨hx, hb, hml, hown, hts⟩ (m_of_9 l D ct S ws_9 ph xx mo mw ma mf m0 m1 mu mv u0 u1 iz mb th mn mpt mbg mwr mwk mlf men f G cx p1 _ hT hph hy1 hR hc) (cm_V 2 hts kc_X11_of ki_RX11 kl_RX11_209 kv_X11_of kx_X11_of kd_X11_of ⟨Nat.le_of_ble_eq_true rfl, Nat.le_of_ble_eq_true rfl⟩) (ty_preE (ci := 11) (q0 := 0) hP hK hD hS hA hX rfl rfl) rfl rfl hl.1 rfl (lv_room (Nat.le_of_ble_eq_true rfl)) dX11_warms_59 ⟨Nat.le_of_ble_eq_true rfl, Nat.le_of_ble_eq_true rfl⟩) (fun r_10 u H locs hw_11 hP hD hS => ?_)
  obtain ⟨ws_12, rfl⟩ : ∃ z, z = u := ⟨_, rfl⟩
  obtain ⟨hT, rfl⟩ := hw_11
  obtain ⟨hP, hD⟩ := ty_shPD (w2 := ([(rf_MO mo mw ma mf m0 m1 mu mv u0 u1 iz th mb mn mpt mbg mwr mwk mlf men), (rf_RW ct 0 mw 958 f)] ++ ws_12)) hP hD rfl
  refine lv_iload_n hx hb dX11_warms_62 rfl (lv_at hl 0 rfl) ?_
  refine lv_aload_n hx hb dX11_warms_63 rfl (lv_at hl 1 rfl) ?_
  refine va_get (v := .ref mw) (D := D) (ci := 11) (C := RX11) (T := TX11) (N := 19) hx hb hts in_X11 hown hK hP 0 rfl rfl 0 (by decide) (hts _ kl_RX11_9) (fun _ h9 => h9) rfl dX11_warms_64 ?_
  refine lv_iconst (v := 2) hx hb dX11_warms_67 (by decide) ?_
  refine va_iald hx hb hK hP 1 0 rfl rfl (cm_vin (by decide)) dX11_warms_68 ?_
  refine cm_cst (y := (f 2)) (by first | rfl | decide +kernel) ?_
  refine lv_idiv hx hb dX11_warms_69 (rf_nz (rf_set hR hc).2) ?_
  refine lv_iadd hx hb dX11_warms_70 ?_
  obtain ⟨hP, hD⟩ := ty_ipPD (E1 := []) (E2 := [(rf_MO mo mw ma mf m0 m1 mu mv u0 u1 iz th mb mn mpt mbg mwr mwk mlf men), (rf_RW ct 0 mw 958 f)]) hP hD rfl ty_mva
  refine ty_Kv hP hD hS hA (va_runV (As := [.int p1, .int 9, .int ((rf_of f p1 9) + ((((rf_of f p1 17) + ((((p2 * p2) / 1000) * (rf_of f p1 13)) / 1000)) - (((rf_of f p1 9) - (f 7)) * (f 3))) / (f 2)))]) (rest := []) ⟨hx, hb, hml, hown, hts⟩ (m_put_9 l D ct S ws_12 ph xx mo mw ma mf m0 m1 mu mv u0 u1 iz mb th mn mpt mbg mwr mwk mlf men f G cx p1 ((rf_of f p1 9) + ((((rf_of f p1 17) + ((((p2 * p2) / 1000) * (rf_of f p1 13)) / 1000)) - (((rf_of f p1 9) - (f 7)) * (f 3))) / (f 2))) _ hT hph hy1 hR hc) (cm_V 3 hts kc_X11_put ki_RX11 kl_RX11_234 kv_X11_put kx_X11_put kd_X11_put ⟨Nat.le_of_ble_eq_true rfl, Nat.le_of_ble_eq_true rfl⟩) (ty_preE (ci := 11) (q0 := 0) hP hK hD hS hA hX rfl rfl) rfl rfl hl.1 rfl (lv_room (Nat.le_of_ble_eq_true rfl)) dX11_warms_71 ⟨Nat.le_of_ble_eq_true rfl, Nat.le_of_ble_eq_true rfl⟩) (fun u H locs hw_14 hP hD hS => ?_)
  obtain ⟨ws_15, f1_16⟩ := u
  obtain ⟨hT, hp_17⟩ := hw_14
  have hp_17 : rf_d (f 8) f f1_16 ∧ rf_R G cx f1_16 ∧ rf_sm f f1_16 ∧ f1_16 = upd f (244 + 54 * p1.toInt.toNat + 9) ((rf_of f p1 9) + ((((rf_of f p1 17) + ((((p2 * p2) / 1000) * (rf_of f p1 13)) / 1000)) - (((rf_of f p1 9) - (f 7)) * (f 3))) / (f 2))) := hp_17
  obtain ⟨hd_18, hq_19⟩ := hp_17
  have hD_20 := rf_dt (rf_dr f) hd_18
  have hR_21 := hq_19.1
  have hM_22 := rf_smt (rf_smr f) hq_19.2.1
  obtain ⟨hP, hD⟩ := ty_shPD (w2 := ([(rf_MO mo mw ma mf m0 m1 mu mv u0 u1 iz th mb mn mpt mbg mwr mwk mlf men), (rf_RW ct 0 mw 958 f1_16)] ++ ws_15)) hP hD rfl
  refine lv_aload_n hx hb dX11_warms_74 rfl (lv_at hl 1 rfl) ?_
  refine lv_iload_n hx hb dX11_warms_75 rfl (lv_at hl 2 rfl) ?_
  refine lv_bipush (v := 17) hx hb dX11_warms_76 (by decide) ?_
  refine lv_iload_n hx hb dX11_warms_78 rfl (lv_at hl 0 rfl) ?_
  refine lv_aload_n hx hb dX11_warms_79 rfl (lv_at hl 1 rfl) ?_
  refine va_get (v := .ref mw) (D := D) (ci := 11) (C := RX11) (T := TX11) (N := 19) hx hb hts in_X11 hown hK hP 0 rfl rfl 0 (by decide) (hts _ kl_RX11_9) (fun _ h9 => h9) rfl dX11_warms_80 ?_
  refine lv_iconst (v := 2) hx hb dX11_warms_83 (by decide) ?_
  refine va_iald hx hb hK hP 1 0 rfl rfl (cm_vin (by decide)) dX11_warms_84 ?_
  refine cm_cst (y := (f1_16 2)) (by first | rfl | decide +kernel) ?_
  refine lv_irem hx hb dX11_warms_85 (rf_nz (rf_set hR_21 hc).2) ?_
  obtain ⟨hP, hD⟩ := ty_ipPD (E1 := []) (E2 := [(rf_MO mo mw ma mf m0 m1 mu mv u0 u1 iz th mb mn mpt mbg mwr mwk mlf men), (rf_RW ct 0 mw 958 f1_16)]) hP hD rfl ty_mva
  refine ty_Kv hP hD hS hA (va_runV (As := [.int p1, .int 17, .int ((((rf_of f p1 17) + ((((p2 * p2) / 1000) * (rf_of f p1 13)) / 1000)) - (((rf_of f p1 9) - (f 7)) * (f 3))) - (((((rf_of f p1 17) + ((((p2 * p2) / 1000) * (rf_of f p1 13)) / 1000)) - (((rf_of f p1 9) - (f 7)) * (f 3))) / (f1_16 2)) * (f1_16 2)))]) (rest := []) ⟨hx, hb, hml, hown, hts⟩ (m_put_17 l D ct S ws_15 ph xx mo mw ma mf m0 m1 mu mv u0 u1 iz mb th mn mpt mbg mwr mwk mlf men f1_16 G cx p1 ((((rf_of f p1 17) + ((((p2 * p2) / 1000) * (rf_of f p1 13)) / 1000)) - (((rf_of f p1 9) - (f 7)) * (f 3))) - (((((rf_of f p1 17) + ((((p2 * p2) / 1000) * (rf_of f p1 13)) / 1000)) - (((rf_of f p1 9) - (f 7)) * (f 3))) / (f1_16 2)) * (f1_16 2))) _ hT hph hy1 hR_21 hc) (cm_V 3 hts kc_X11_put ki_RX11 kl_RX11_234 kv_X11_put kx_X11_put kd_X11_put ⟨Nat.le_of_ble_eq_true rfl, Nat.le_of_ble_eq_true rfl⟩) (ty_preE (ci := 11) (q0 := 0) hP hK hD hS hA hX rfl rfl) rfl rfl hl.1 rfl (lv_room (Nat.le_of_ble_eq_true rfl)) dX11_warms_86 ⟨Nat.le_of_ble_eq_true rfl, Nat.le_of_ble_eq_true rfl⟩) (fun u H locs hw_24 hP hD hS => ?_)
  obtain ⟨ws_25, f1_26⟩ := u
  obtain ⟨hT, hp_27⟩ := hw_24
  have hp_27 : rf_d (f1_16 8) f1_16 f1_26 ∧ rf_R G cx f1_26 ∧ rf_sm f1_16 f1_26 ∧ f1_26 = upd f1_16 (244 + 54 * p1.toInt.toNat + 17) ((((rf_of f p1 17) + ((((p2 * p2) / 1000) * (rf_of f p1 13)) / 1000)) - (((rf_of f p1 9) - (f 7)) * (f 3))) - (((((rf_of f p1 17) + ((((p2 * p2) / 1000) * (rf_of f p1 13)) / 1000)) - (((rf_of f p1 9) - (f 7)) * (f 3))) / (f1_16 2)) * (f1_16 2))) := hp_27
  obtain ⟨hd_28, hq_29⟩ := hp_27
  have hD_30 := rf_dt hD_20 hd_28
  have hR_31 := hq_29.1
  have hM_32 := rf_smt hM_22 hq_29.2.1
  obtain ⟨hP, hD⟩ := ty_shPD (w2 := ([(rf_MO mo mw ma mf m0 m1 mu mv u0 u1 iz th mb mn mpt mbg mwr mwk mlf men), (rf_RW ct 0 mw 958 f1_26)] ++ ws_25)) hP hD rfl
  exact W.vret hx hb hr (fun t ht hW => ⟨⟨(ws_25, f1_26), rfl, ⟨hT, ⟨⟨f1_16, hq_19.2.2, ⟨f1_26, hq_29.2.2, rfl⟩⟩, ⟨hD_30, hR_31, hM_32⟩⟩⟩, by rw [ht]; exact hP, by rw [hAe]; exact hD⟩, hS.F ht⟩) hS.2.2 dX11_warms_89
