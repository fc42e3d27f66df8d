theorem dX11_step_0 : decode cX11_step 0 = .ok (.aload_n 0, 1) := by decide +kernel
theorem dX11_step_1 : decode cX11_step 1 = .ok (.aload_n 0, 1) := by decide +kernel
theorem dX11_step_2 : decode cX11_step 2 = .ok (.iload_n 1, 1) := by decide +kernel
theorem dX11_step_3 : decode cX11_step 3 = .ok (.iconst 1, 1) := by decide +kernel
theorem dX11_step_4 : decode cX11_step 4 = .ok (.invokevirtual 209, 3) := by decide +kernel
theorem dX11_step_7 : decode cX11_step 7 = .ok (.aload_n 0, 1) := by decide +kernel
theorem dX11_step_8 : decode cX11_step 8 = .ok (.iload_n 1, 1) := by decide +kernel
theorem dX11_step_9 : decode cX11_step 9 = .ok (.iconst 2, 1) := by decide +kernel
theorem dX11_step_10 : decode cX11_step 10 = .ok (.invokevirtual 209, 3) := by decide +kernel
theorem dX11_step_13 : decode cX11_step 13 = .ok (.iload_n 2, 1) := by decide +kernel
theorem dX11_step_14 : decode cX11_step 14 = .ok (.invokevirtual 218, 3) := by decide +kernel
theorem dX11_step_17 : decode cX11_step 17 = .ok (.ireturn, 1) := by decide +kernel
set_option maxRecDepth 100000 in
set_option maxHeartbeats 4000000 in
theorem m_step_0 (l : Launch) (D : va_G) (ct : Nat → ClassId) (S : ty_S) (ws : va_W) (mo : Nat) (mw : Nat) (ma : Nat) (mf : Nat) (m0 : Nat) (m1 : Nat) (mu : Nat) (mv : Nat) (u0 : Nat) (u1 : Nat) (iz : Nat) (mb : Nat) (th : Int32) (mn : Int32) (mpt : Int32) (mbg : Int32) (mwr : Int32) (mwk : Int32) (mlf : Int32) (men : Int32) (f : Nat → Int32) (G : Nat → Int32) (cx : Int) (p1 : Int32) (sz : Nat) (hT : ty_W ct S ws) (h_mu : S mu = some (.inr (1, 42))) (h_mv : S mv = some (.inr (1, 42))) (h_u0 : S u0 = some (.inr (1, 42))) (h_u1 : S u1 = some (.inr (1, 42))) (hR : rf_R G cx f) (hc : 0 ≤ p1.toInt ∧ p1.toInt < (G 9).toInt) (ho : rf_on G f p1) : Met l yX11_step (ws_ yX11_step cX11_step 3 (some .int)) ({ frames := 1, cells := 0, slots := 0, locals := 23 } : Room) (va_Pc [.ref mo, .int p1, .int 0] (cmP D ct sz ([(mo, .inr (11, [.ref mw, .ref ma, .ref mf, .ref m0, .ref m1, .ref mu, .ref mv, .ref u0, .ref u1, .ref iz, .int th, .ref mb, .int mn, .int mpt, .int mbg, .int mwr, .int mwk, .int mlf, .int men])), (mw, .inl (ct 0, 958, .inl f))] ++ ws))) (va_Qi (fun (r : Int32) (u9 : va_W) => ty_W ct S u9 ∧ r = (rf_st3 f p1 0)) (cmB D ([(mo, .inr (11, [.ref mw, .ref ma, .ref mf, .ref m0, .ref m1, .ref mu, .ref mv, .ref u0, .ref u1, .ref iz, .int th, .ref mb, .int mn, .int mpt, .int mbg, .int mwr, .int mwk, .int mlf, .int men])), (mw, .inl (ct 0, 958, .inl f))] ++ ws) sz (fun (u9 : va_W) => ([(mo, .inr (11, [.ref mw, .ref ma, .ref mf, .ref m0, .ref m1, .ref mu, .ref mv, .ref u0, .ref u1, .ref iz, .int th, .ref mb, .int mn, .int mpt, .int mbg, .int mwr, .int mwk, .int mlf, .int men])), (mw, .inl (ct 0, 958, .inl f))] ++ u9))) (va_A ([(mo, .inr (11, [.ref mw, .ref ma, .ref mf, .ref m0, .ref m1, .ref mu, .ref mv, .ref u0, .ref u1, .ref iz, .int th, .ref mb, .int mn, .int mpt, .int mbg, .int mwr, .int mwk, .int mlf, .int men])), (mw, .inl (ct 0, 958, .inl f))] ++ ws) sz)) 0 0 (va_A ([(mo, .inr (11, [.ref mw, .ref ma, .ref mf, .ref m0, .ref m1, .ref mu, .ref mv, .ref u0, .ref u1, .ref iz, .int th, .ref mb, .int mn, .int mpt, .int mbg, .int mwr, .int mwk, .int mlf, .int men])), (mw, .inl (ct 0, 958, .inl f))] ++ ws) sz) := by
  refine Met.ofW (cc := cX11_step) (maxL := 3) (ret := (some .int)) (by decide) rfl ?_
  intro p e s m args below meth c s₁ B hml hv
  obtain ⟨rfl, hsz, hP, hK, hD0, hX⟩ := hv
  have hx := B.exec
  have hb := B.bytes
  have hr := B.returns
  have hts := ws_all (atoms_spec (ws := ws_ yX11_step cX11_step 3 (some .int)) B.pre)
  have hown : s.vm.findClass RX11 = some m.cls := findClass_of_methodNamed B.named
  have hlocks := B.notSynchronized
  subst hsz
  have hD := hD0.self (sz := s.heap.size)
  generalize hAe : va_A ([(mo, .inr (11, [.ref mw, .ref ma, .ref mf, .ref m0, .ref m1, .ref mu, .ref mv, .ref u0, .ref u1, .ref iz, .int th, .ref mb, .int mn, .int mpt, .int mbg, .int mwr, .int mwk, .int mlf, .int men])), (mw, .inl (ct 0, 958, .inl f))] ++ ws) s.heap.size = A at hD hX ⊢
  have hA : ∀ q : Nat, s.heap.size ≤ q → A q := fun q h => by rw [← hAe]; exact Or.inr h
  have hS : va_S A s.heap s.heap [] := va_S.rf
  have hl := lv_entry ([.ref mo, .int p1, .int 0]) (n := 3) (Nat.le_of_ble_eq_true rfl)
  rw [lg_entry_eq]
  generalize (lg_sl ([.ref mo, .int p1, .int 0]) ++ List.replicate (3 - (lg_sl ([.ref mo, .int p1, .int 0])).length) Slot.unset).toArray = ls at hl ⊢
  have hl : lv_has ls 3 [(0, .ref mo), (1, .int p1), (2, .int 0)] := hl
  refine lv_aload_n hx hb dX11_step_0 rfl (lv_at hl 0 rfl) ?_
  refine lv_aload_n hx hb dX11_step_1 rfl (lv_at hl 0 rfl) ?_
  refine lv_iload_n hx hb dX11_step_2 rfl (lv_at hl 1 rfl) ?_
  refine lv_iconst (v := 1) hx hb dX11_step_3 (by decide) ?_
  refine ty_ki (wr := []) (wc := ([(mo, .inr (11, [.ref mw, .ref ma, .ref mf, .ref m0, .ref m1, .ref mu, .ref mv, .ref u0, .ref u1, .ref iz, .int th, .ref mb, .int mn, .int mpt, .int mbg, .int mwr, .int mwk, .int mlf, .int men])), (mw, .inl (ct 0, 958, .inl f))] ++ ws)) (va_runV (As := [.int p1, .int 1]) (rest := [.ref mo]) ⟨hx, hb, hml, hown, hts⟩ (m_of_1 l D ct S ws mo mw ma mf m0 m1 mu mv u0 u1 iz mb th mn mpt mbg mwr mwk mlf men f G cx p1 _ hT h_mu h_mv h_u0 h_u1 hR hc) (cm_V 2 hts kc_X11_of ki_RX11 kl_RX11_209 kv_X11_of kx_X11_of kd_X11_of ⟨Nat.le_of_ble_eq_true rfl, Nat.le_of_ble_eq_true rfl⟩) (ty_preE (wr := []) (wc := ([(mo, .inr (11, [.ref mw, .ref ma, .ref mf, .ref m0, .ref m1, .ref mu, .ref mv, .ref u0, .ref u1, .ref iz, .int th, .ref mb, .int mn, .int mpt, .int mbg, .int mwr, .int mwk, .int mlf, .int men])), (mw, .inl (ct 0, 958, .inl f))] ++ ws)) (ci := 11) (q0 := 0) hP hK hD hS hA hX rfl rfl) rfl rfl hl.1 rfl (lv_room (Nat.le_of_ble_eq_true rfl)) dX11_step_4 ⟨Nat.le_of_ble_eq_true rfl, Nat.le_of_ble_eq_true rfl⟩) hP hD hS hA (fun r_1 u H locs hw_2 hP hD hS => ?_)
  obtain ⟨ws_3, rfl⟩ : ∃ z, z = u := ⟨_, rfl⟩
  obtain ⟨hT, rfl⟩ := hw_2
  have hP : va_P D vwCl ([(mo, .inr (11, [.ref mw, .ref ma, .ref mf, .ref m0, .ref m1, .ref mu, .ref mv, .ref u0, .ref u1, .ref iz, .int th, .ref mb, .int mn, .int mpt, .int mbg, .int mwr, .int mwk, .int mlf, .int men])), (mw, .inl (ct 0, 958, .inl f))] ++ ws_3) H := hP
  have hD : va_D A ([(mo, .inr (11, [.ref mw, .ref ma, .ref mf, .ref m0, .ref m1, .ref mu, .ref mv, .ref u0, .ref u1, .ref iz, .int th, .ref mb, .int mn, .int mpt, .int mbg, .int mwr, .int mwk, .int mlf, .int men])), (mw, .inl (ct 0, 958, .inl f))] ++ ws_3) := hD
  refine lv_aload_n hx hb dX11_step_7 rfl (lv_at hl 0 rfl) ?_
  refine lv_iload_n hx hb dX11_step_8 rfl (lv_at hl 1 rfl) ?_
  refine lv_iconst (v := 2) hx hb dX11_step_9 (by decide) ?_
  refine ty_ki (wr := []) (wc := ([(mo, .inr (11, [.ref mw, .ref ma, .ref mf, .ref m0, .ref m1, .ref mu, .ref mv, .ref u0, .ref u1, .ref iz, .int th, .ref mb, .int mn, .int mpt, .int mbg, .int mwr, .int mwk, .int mlf, .int men])), (mw, .inl (ct 0, 958, .inl f))] ++ ws_3)) (va_runV (As := [.int p1, .int 2]) (rest := [.int (rf_of f p1 1), .ref mo]) ⟨hx, hb, hml, hown, hts⟩ (m_of_2 l D ct S ws_3 mo mw ma mf m0 m1 mu mv u0 u1 iz mb th mn mpt mbg mwr mwk mlf men f G cx p1 _ hT h_mu h_mv h_u0 h_u1 hR hc) (cm_V 2 hts kc_X11_of ki_RX11 kl_RX11_209 kv_X11_of kx_X11_of kd_X11_of ⟨Nat.le_of_ble_eq_true rfl, Nat.le_of_ble_eq_true rfl⟩) (ty_preE (wr := []) (wc := ([(mo, .inr (11, [.ref mw, .ref ma, .ref mf, .ref m0, .ref m1, .ref mu, .ref mv, .ref u0, .ref u1, .ref iz, .int th, .ref mb, .int mn, .int mpt, .int mbg, .int mwr, .int mwk, .int mlf, .int men])), (mw, .inl (ct 0, 958, .inl f))] ++ ws_3)) (ci := 11) (q0 := 0) hP hK hD hS hA hX rfl rfl) rfl rfl hl.1 rfl (lv_room (Nat.le_of_ble_eq_true rfl)) dX11_step_10 ⟨Nat.le_of_ble_eq_true rfl, Nat.le_of_ble_eq_true rfl⟩) hP hD hS hA (fun r_4 u H locs hw_5 hP hD hS => ?_)
  obtain ⟨ws_6, rfl⟩ : ∃ z, z = u := ⟨_, rfl⟩
  obtain ⟨hT, rfl⟩ := hw_5
  have hP : va_P D vwCl ([(mo, .inr (11, [.ref mw, .ref ma, .ref mf, .ref m0, .ref m1, .ref mu, .ref mv, .ref u0, .ref u1, .ref iz, .int th, .ref mb, .int mn, .int mpt, .int mbg, .int mwr, .int mwk, .int mlf, .int men])), (mw, .inl (ct 0, 958, .inl f))] ++ ws_6) H := hP
  have hD : va_D A ([(mo, .inr (11, [.ref mw, .ref ma, .ref mf, .ref m0, .ref m1, .ref mu, .ref mv, .ref u0, .ref u1, .ref iz, .int th, .ref mb, .int mn, .int mpt, .int mbg, .int mwr, .int mwk, .int mlf, .int men])), (mw, .inl (ct 0, 958, .inl f))] ++ ws_6) := hD
  refine lv_iload_n hx hb dX11_step_13 rfl (lv_at hl 2 rfl) ?_
  refine ty_ki (wr := []) (wc := ([(mo, .inr (11, [.ref mw, .ref ma, .ref mf, .ref m0, .ref m1, .ref mu, .ref mv, .ref u0, .ref u1, .ref iz, .int th, .ref mb, .int mn, .int mpt, .int mbg, .int mwr, .int mwk, .int mlf, .int men])), (mw, .inl (ct 0, 958, .inl f))] ++ ws_6)) (va_runV (As := [.int (rf_of f p1 1), .int (rf_of f p1 2), .int 0]) (rest := []) ⟨hx, hb, hml, hown, hts⟩ (m_stepOf_0 l D ct S ws_6 mo mw ma mf m0 m1 mu mv u0 u1 iz mb th mn mpt mbg mwr mwk mlf men f G cx (rf_of f p1 1) (rf_of f p1 2) _ hT h_mu h_mv h_u0 h_u1 hR (rf_onp hR ho).1 (rf_onp hR ho).2) (cm_V 3 hts kc_X11_stepOf ki_RX11 kl_RX11_218 kv_X11_stepOf kx_X11_stepOf kd_X11_stepOf ⟨Nat.le_of_ble_eq_true rfl, Nat.le_of_ble_eq_true rfl⟩) (ty_preE (wr := []) (wc := ([(mo, .inr (11, [.ref mw, .ref ma, .ref mf, .ref m0, .ref m1, .ref mu, .ref mv, .ref u0, .ref u1, .ref iz, .int th, .ref mb, .int mn, .int mpt, .int mbg, .int mwr, .int mwk, .int mlf, .int men])), (mw, .inl (ct 0, 958, .inl f))] ++ ws_6)) (ci := 11) (q0 := 0) hP hK hD hS hA hX rfl rfl) rfl rfl hl.1 rfl (lv_room (Nat.le_of_ble_eq_true rfl)) dX11_step_14 ⟨Nat.le_of_ble_eq_true rfl, Nat.le_of_ble_eq_true rfl⟩) hP hD hS hA (fun r_7 u H locs hw_8 hP hD hS => ?_)
  obtain ⟨ws_9, rfl⟩ : ∃ z, z = u := ⟨_, rfl⟩
  obtain ⟨hT, rfl⟩ := hw_8
  have hP : va_P D vwCl ([(mo, .inr (11, [.ref mw, .ref ma, .ref mf, .ref m0, .ref m1, .ref mu, .ref mv, .ref u0, .ref u1, .ref iz, .int th, .ref mb, .int mn, .int mpt, .int mbg, .int mwr, .int mwk, .int mlf, .int men])), (mw, .inl (ct 0, 958, .inl f))] ++ ws_9) H := hP
  have hD : va_D A ([(mo, .inr (11, [.ref mw, .ref ma, .ref mf, .ref m0, .ref m1, .ref mu, .ref mv, .ref u0, .ref u1, .ref iz, .int th, .ref mb, .int mn, .int mpt, .int mbg, .int mwr, .int mwk, .int mlf, .int men])), (mw, .inl (ct 0, 958, .inl f))] ++ ws_9) := hD
  exact W.iret (v := (f (97 + 37 * (rf_of f p1 1).toInt.toNat + 3 * (rf_of f p1 2).toInt.toNat + 0))) hx hb hr (fun t ht hW => ⟨⟨(f (97 + 37 * (rf_of f p1 1).toInt.toNat + 3 * (rf_of f p1 2).toInt.toNat + 0)), ws_9, rfl, ⟨hT, rfl⟩, by rw [ht]; exact hP, by rw [hAe]; exact hD⟩, hS.F ht⟩) hS.2.2 dX11_step_17
set_option maxRecDepth 100000 in
set_option maxHeartbeats 4000000 in
theorem m_step_1 (l : Launch) (D : va_G) (ct : Nat → ClassId) (S : ty_S) (ws : va_W) (mo : Nat) (mw : Nat) (ma : Nat) (mf : Nat) (m0 : Nat) (m1 : Nat) (mu : Nat) (mv : Nat) (u0 : Nat) (u1 : Nat) (iz : Nat) (mb : Nat) (th : Int32) (mn : Int32) (mpt : Int32) (mbg : Int32) (mwr : Int32) (mwk : Int32) (mlf : Int32) (men : Int32) (f : Nat → Int32) (G : Nat → Int32) (cx : Int) (p1 : Int32) (sz : Nat) (hT : ty_W ct S ws) (h_mu : S mu = some (.inr (1, 42))) (h_mv : S mv = some (.inr (1, 42))) (h_u0 : S u0 = some (.inr (1, 42))) (h_u1 : S u1 = some (.inr (1, 42))) (hR : rf_R G cx f) (hc : 0 ≤ p1.toInt ∧ p1.toInt < (G 9).toInt) (ho : rf_on G f p1) : Met l yX11_step (ws_ yX11_step cX11_step 3 (some .int)) ({ frames := 1, cells := 0, slots := 0, locals := 23 } : Room) (va_Pc [.ref mo, .int p1, .int 1] (cmP D ct sz ([(mo, .inr (11, [.ref mw, .ref ma, .ref mf, .ref m0, .ref m1, .ref mu, .ref mv, .ref u0, .ref u1, .ref iz, .int th, .ref mb, .int mn, .int mpt, .int mbg, .int mwr, .int mwk, .int mlf, .int men])), (mw, .inl (ct 0, 958, .inl f))] ++ ws))) (va_Qi (fun (r : Int32) (u9 : va_W) => ty_W ct S u9 ∧ r = (rf_st3 f p1 1)) (cmB D ([(mo, .inr (11, [.ref mw, .ref ma, .ref mf, .ref m0, .ref m1, .ref mu, .ref mv, .ref u0, .ref u1, .ref iz, .int th, .ref mb, .int mn, .int mpt, .int mbg, .int mwr, .int mwk, .int mlf, .int men])), (mw, .inl (ct 0, 958, .inl f))] ++ ws) sz (fun (u9 : va_W) => ([(mo, .inr (11, [.ref mw, .ref ma, .ref mf, .ref m0, .ref m1, .ref mu, .ref mv, .ref u0, .ref u1, .ref iz, .int th, .ref mb, .int mn, .int mpt, .int mbg, .int mwr, .int mwk, .int mlf, .int men])), (mw, .inl (ct 0, 958, .inl f))] ++ u9))) (va_A ([(mo, .inr (11, [.ref mw, .ref ma, .ref mf, .ref m0, .ref m1, .ref mu, .ref mv, .ref u0, .ref u1, .ref iz, .int th, .ref mb, .int mn, .int mpt, .int mbg, .int mwr, .int mwk, .int mlf, .int men])), (mw, .inl (ct 0, 958, .inl f))] ++ ws) sz)) 0 0 (va_A ([(mo, .inr (11, [.ref mw, .ref ma, .ref mf, .ref m0, .ref m1, .ref mu, .ref mv, .ref u0, .ref u1, .ref iz, .int th, .ref mb, .int mn, .int mpt, .int mbg, .int mwr, .int mwk, .int mlf, .int men])), (mw, .inl (ct 0, 958, .inl f))] ++ ws) sz) := by
  refine Met.ofW (cc := cX11_step) (maxL := 3) (ret := (some .int)) (by decide) rfl ?_
  intro p e s m args below meth c s₁ B hml hv
  obtain ⟨rfl, hsz, hP, hK, hD0, hX⟩ := hv
  have hx := B.exec
  have hb := B.bytes
  have hr := B.returns
  have hts := ws_all (atoms_spec (ws := ws_ yX11_step cX11_step 3 (some .int)) B.pre)
  have hown : s.vm.findClass RX11 = some m.cls := findClass_of_methodNamed B.named
  have hlocks := B.notSynchronized
  subst hsz
  have hD := hD0.self (sz := s.heap.size)
  generalize hAe : va_A ([(mo, .inr (11, [.ref mw, .ref ma, .ref mf, .ref m0, .ref m1, .ref mu, .ref mv, .ref u0, .ref u1, .ref iz, .int th, .ref mb, .int mn, .int mpt, .int mbg, .int mwr, .int mwk, .int mlf, .int men])), (mw, .inl (ct 0, 958, .inl f))] ++ ws) s.heap.size = A at hD hX ⊢
  have hA : ∀ q : Nat, s.heap.size ≤ q → A q := fun q h => by rw [← hAe]; exact Or.inr h
  have hS : va_S A s.heap s.heap [] := va_S.rf
  have hl := lv_entry ([.ref mo, .int p1, .int 1]) (n := 3) (Nat.le_of_ble_eq_true rfl)
  rw [lg_entry_eq]
  generalize (lg_sl ([.ref mo, .int p1, .int 1]) ++ List.replicate (3 - (lg_sl ([.ref mo, .int p1, .int 1])).length) Slot.unset).toArray = ls at hl ⊢
  have hl : lv_has ls 3 [(0, .ref mo), (1, .int p1), (2, .int 1)] := hl
  refine lv_aload_n hx hb dX11_step_0 rfl (lv_at hl 0 rfl) ?_
  refine lv_aload_n hx hb dX11_step_1 rfl (lv_at hl 0 rfl) ?_
  refine lv_iload_n hx hb dX11_step_2 rfl (lv_at hl 1 rfl) ?_
  refine lv_iconst (v := 1) hx hb dX11_step_3 (by decide) ?_
  refine ty_ki (wr := []) (wc := ([(mo, .inr (11, [.ref mw, .ref ma, .ref mf, .ref m0, .ref m1, .ref mu, .ref mv, .ref u0, .ref u1, .ref iz, .int th, .ref mb, .int mn, .int mpt, .int mbg, .int mwr, .int mwk, .int mlf, .int men])), (mw, .inl (ct 0, 958, .inl f))] ++ ws)) (va_runV (As := [.int p1, .int 1]) (rest := [.ref mo]) ⟨hx, hb, hml, hown, hts⟩ (m_of_1 l D ct S ws mo mw ma mf m0 m1 mu mv u0 u1 iz mb th mn mpt mbg mwr mwk mlf men f G cx p1 _ hT h_mu h_mv h_u0 h_u1 hR hc) (cm_V 2 hts kc_X11_of ki_RX11 kl_RX11_209 kv_X11_of kx_X11_of kd_X11_of ⟨Nat.le_of_ble_eq_true rfl, Nat.le_of_ble_eq_true rfl⟩) (ty_preE (wr := []) (wc := ([(mo, .inr (11, [.ref mw, .ref ma, .ref mf, .ref m0, .ref m1, .ref mu, .ref mv, .ref u0, .ref u1, .ref iz, .int th, .ref mb, .int mn, .int mpt, .int mbg, .int mwr, .int mwk, .int mlf, .int men])), (mw, .inl (ct 0, 958, .inl f))] ++ ws)) (ci := 11) (q0 := 0) hP hK hD hS hA hX rfl rfl) rfl rfl hl.1 rfl (lv_room (Nat.le_of_ble_eq_true rfl)) dX11_step_4 ⟨Nat.le_of_ble_eq_true rfl, Nat.le_of_ble_eq_true rfl⟩) hP hD hS hA (fun r_1 u H locs hw_2 hP hD hS => ?_)
  obtain ⟨ws_3, rfl⟩ : ∃ z, z = u := ⟨_, rfl⟩
  obtain ⟨hT, rfl⟩ := hw_2
  have hP : va_P D vwCl ([(mo, .inr (11, [.ref mw, .ref ma, .ref mf, .ref m0, .ref m1, .ref mu, .ref mv, .ref u0, .ref u1, .ref iz, .int th, .ref mb, .int mn, .int mpt, .int mbg, .int mwr, .int mwk, .int mlf, .int men])), (mw, .inl (ct 0, 958, .inl f))] ++ ws_3) H := hP
  have hD : va_D A ([(mo, .inr (11, [.ref mw, .ref ma, .ref mf, .ref m0, .ref m1, .ref mu, .ref mv, .ref u0, .ref u1, .ref iz, .int th, .ref mb, .int mn, .int mpt, .int mbg, .int mwr, .int mwk, .int mlf, .int men])), (mw, .inl (ct 0, 958, .inl f))] ++ ws_3) := hD
  refine lv_aload_n hx hb dX11_step_7 rfl (lv_at hl 0 rfl) ?_
  refine lv_iload_n hx hb dX11_step_8 rfl (lv_at hl 1 rfl) ?_
  refine lv_iconst (v := 2) hx hb dX11_step_9 (by decide) ?_
  refine ty_ki (wr := []) (wc := ([(mo, .inr (11, [.ref mw, .ref ma, .ref mf, .ref m0, .ref m1, .ref mu, .ref mv, .ref u0, .ref u1, .ref iz, .int th, .ref mb, .int mn, .int mpt, .int mbg, .int mwr, .int mwk, .int mlf, .int men])), (mw, .inl (ct 0, 958, .inl f))] ++ ws_3)) (va_runV (As := [.int p1, .int 2]) (rest := [.int (rf_of f p1 1), .ref mo]) ⟨hx, hb, hml, hown, hts⟩ (m_of_2 l D ct S ws_3 mo mw ma mf m0 m1 mu mv u0 u1 iz mb th mn mpt mbg mwr mwk mlf men f G cx p1 _ hT h_mu h_mv h_u0 h_u1 hR hc) (cm_V 2 hts kc_X11_of ki_RX11 kl_RX11_209 kv_X11_of kx_X11_of kd_X11_of ⟨Nat.le_of_ble_eq_true rfl, Nat.le_of_ble_eq_true rfl⟩) (ty_preE (wr := []) (wc := ([(mo, .inr (11, [.ref mw, .ref ma, .ref mf, .ref m0, .ref m1, .ref mu, .ref mv, .ref u0, .ref u1, .ref iz, .int th, .ref mb, .int mn, .int mpt, .int mbg, .int mwr, .int mwk, .int mlf, .int men])), (mw, .inl (ct 0, 958, .inl f))] ++ ws_3)) (ci := 11) (q0 := 0) hP hK hD hS hA hX rfl rfl) rfl rfl hl.1 rfl (lv_room (Nat.le_of_ble_eq_true rfl)) dX11_step_10 ⟨Nat.le_of_ble_eq_true rfl, Nat.le_of_ble_eq_true rfl⟩) hP hD hS hA (fun r_4 u H locs hw_5 hP hD hS => ?_)
  obtain ⟨ws_6, rfl⟩ : ∃ z, z = u := ⟨_, rfl⟩
  obtain ⟨hT, rfl⟩ := hw_5
  have hP : va_P D vwCl ([(mo, .inr (11, [.ref mw, .ref ma, .ref mf, .ref m0, .ref m1, .ref mu, .ref mv, .ref u0, .ref u1, .ref iz, .int th, .ref mb, .int mn, .int mpt, .int mbg, .int mwr, .int mwk, .int mlf, .int men])), (mw, .inl (ct 0, 958, .inl f))] ++ ws_6) H := hP
  have hD : va_D A ([(mo, .inr (11, [.ref mw, .ref ma, .ref mf, .ref m0, .ref m1, .ref mu, .ref mv, .ref u0, .ref u1, .ref iz, .int th, .ref mb, .int mn, .int mpt, .int mbg, .int mwr, .int mwk, .int mlf, .int men])), (mw, .inl (ct 0, 958, .inl f))] ++ ws_6) := hD
  refine lv_iload_n hx hb dX11_step_13 rfl (lv_at hl 2 rfl) ?_
  refine ty_ki (wr := []) (wc := ([(mo, .inr (11, [.ref mw, .ref ma, .ref mf, .ref m0, .ref m1, .ref mu, .ref mv, .ref u0, .ref u1, .ref iz, .int th, .ref mb, .int mn, .int mpt, .int mbg, .int mwr, .int mwk, .int mlf, .int men])), (mw, .inl (ct 0, 958, .inl f))] ++ ws_6)) (va_runV (As := [.int (rf_of f p1 1), .int (rf_of f p1 2), .int 1]) (rest := []) ⟨hx, hb, hml, hown, hts⟩ (m_stepOf_1 l D ct S ws_6 mo mw ma mf m0 m1 mu mv u0 u1 iz mb th mn mpt mbg mwr mwk mlf men f G cx (rf_of f p1 1) (rf_of f p1 2) _ hT h_mu h_mv h_u0 h_u1 hR (rf_onp hR ho).1 (rf_onp hR ho).2) (cm_V 3 hts kc_X11_stepOf ki_RX11 kl_RX11_218 kv_X11_stepOf kx_X11_stepOf kd_X11_stepOf ⟨Nat.le_of_ble_eq_true rfl, Nat.le_of_ble_eq_true rfl⟩) (ty_preE (wr := []) (wc := ([(mo, .inr (11, [.ref mw, .ref ma, .ref mf, .ref m0, .ref m1, .ref mu, .ref mv, .ref u0, .ref u1, .ref iz, .int th, .ref mb, .int mn, .int mpt, .int mbg, .int mwr, .int mwk, .int mlf, .int men])), (mw, .inl (ct 0, 958, .inl f))] ++ ws_6)) (ci := 11) (q0 := 0) hP hK hD hS hA hX rfl rfl) rfl rfl hl.1 rfl (lv_room (Nat.le_of_ble_eq_true rfl)) dX11_step_14 ⟨Nat.le_of_ble_eq_true rfl, Nat.le_of_ble_eq_true rfl⟩) hP hD hS hA (fun r_7 u H locs hw_8 hP hD hS => ?_)
  obtain ⟨ws_9, rfl⟩ : ∃ z, z = u := ⟨_, rfl⟩
  obtain ⟨hT, rfl⟩ := hw_8
  have hP : va_P D vwCl ([(mo, .inr (11, [.ref mw, .ref ma, .ref mf, .ref m0, .ref m1, .ref mu, .ref mv, .ref u0, .ref u1, .ref iz, .int th, .ref mb, .int mn, .int mpt, .int mbg, .int mwr, .int mwk, .int mlf, .int men])), (mw, .inl (ct 0, 958, .inl f))] ++ ws_9) H := hP
  have hD : va_D A ([(mo, .inr (11, [.ref mw, .ref ma, .ref mf, .ref m0, .ref m1, .ref mu, .ref mv, .ref u0, .ref u1, .ref iz, .int th, .ref mb, .int mn, .int mpt, .int mbg, .int mwr, .int mwk, .int mlf, .int men])), (mw, .inl (ct 0, 958, .inl f))] ++ ws_9) := hD
  exact W.iret (v := (f (97 + 37 * (rf_of f p1 1).toInt.toNat + 3 * (rf_of f p1 2).toInt.toNat + 1))) hx hb hr (fun t ht hW => ⟨⟨(f (97 + 37 * (rf_of f p1 1).toInt.toNat + 3 * (rf_of f p1 2).toInt.toNat + 1)), ws_9, rfl, ⟨hT, rfl⟩, by rw [ht]; exact hP, by rw [hAe]; exact hD⟩, hS.F ht⟩) hS.2.2 dX11_step_17
set_option maxRecDepth 100000 in
set_option maxHeartbeats 4000000 in
theorem m_step_2 (l : Launch) (D : va_G) (ct : Nat → ClassId) (S : ty_S) (ws : va_W) (mo : Nat) (mw : Nat) (ma : Nat) (mf : Nat) (m0 : Nat) (m1 : Nat) (mu : Nat) (mv : Nat) (u0 : Nat) (u1 : Nat) (iz : Nat) (mb : Nat) (th : Int32) (mn : Int32) (mpt : Int32) (mbg : Int32) (mwr : Int32) (mwk : Int32) (mlf : Int32) (men : Int32) (f : Nat → Int32) (G : Nat → Int32) (cx : Int) (p1 : Int32) (sz : Nat) (hT : ty_W ct S ws) (h_mu : S mu = some (.inr (1, 42))) (h_mv : S mv = some (.inr (1, 42))) (h_u0 : S u0 = some (.inr (1, 42))) (h_u1 : S u1 = some (.inr (1, 42))) (hR : rf_R G cx f) (hc : 0 ≤ p1.toInt ∧ p1.toInt < (G 9).toInt) (ho : rf_on G f p1) : Met l yX11_step (ws_ yX11_step cX11_step 3 (some .int)) ({ frames := 1, cells := 0, slots := 0, locals := 23 } : Room) (va_Pc [.ref mo, .int p1, .int 2] (cmP D ct sz ([(mo, .inr (11, [.ref mw, .ref ma, .ref mf, .ref m0, .ref m1, .ref mu, .ref mv, .ref u0, .ref u1, .ref iz, .int th, .ref mb, .int mn, .int mpt, .int mbg, .int mwr, .int mwk, .int mlf, .int men])), (mw, .inl (ct 0, 958, .inl f))] ++ ws))) (va_Qi (fun (r : Int32) (u9 : va_W) => ty_W ct S u9 ∧ r = (rf_st3 f p1 2)) (cmB D ([(mo, .inr (11, [.ref mw, .ref ma, .ref mf, .ref m0, .ref m1, .ref mu, .ref mv, .ref u0, .ref u1, .ref iz, .int th, .ref mb, .int mn, .int mpt, .int mbg, .int mwr, .int mwk, .int mlf, .int men])), (mw, .inl (ct 0, 958, .inl f))] ++ ws) sz (fun (u9 : va_W) => ([(mo, .inr (11, [.ref mw, .ref ma, .ref mf, .ref m0, .ref m1, .ref mu, .ref mv, .ref u0, .ref u1, .ref iz, .int th, .ref mb, .int mn, .int mpt, .int mbg, .int mwr, .int mwk, .int mlf, .int men])), (mw, .inl (ct 0, 958, .inl f))] ++ u9))) (va_A ([(mo, .inr (11, [.ref mw, .ref ma, .ref mf, .ref m0, .ref m1, .ref mu, .ref mv, .ref u0, .ref u1, .ref iz, .int th, .ref mb, .int mn, .int mpt, .int mbg, .int mwr, .int mwk, .int mlf, .int men])), (mw, .inl (ct 0, 958, .inl f))] ++ ws) sz)) 0 0 (va_A ([(mo, .inr (11, [.ref mw, .ref ma, .ref mf, .ref m0, .ref m1, .ref mu, .ref mv, .ref u0, .ref u1, .ref iz, .int th, .ref mb, .int mn, .int mpt, .int mbg, .int mwr, .int mwk, .int mlf, .int men])), (mw, .inl (ct 0, 958, .inl f))] ++ ws) sz) := by
  refine Met.ofW (cc := cX11_step) (maxL := 3) (ret := (some .int)) (by decide) rfl ?_
  intro p e s m args below meth c s₁ B hml hv
  obtain ⟨rfl, hsz, hP, hK, hD0, hX⟩ := hv
  have hx := B.exec
  have hb := B.bytes
  have hr := B.returns
  have hts := ws_all (atoms_spec (ws := ws_ yX11_step cX11_step 3 (some .int)) B.pre)
  have hown : s.vm.findClass RX11 = some m.cls := findClass_of_methodNamed B.named
  have hlocks := B.notSynchronized
  subst hsz
  have hD := hD0.self (sz := s.heap.size)
  generalize hAe : va_A ([(mo, .inr (11, [.ref mw, .ref ma, .ref mf, .ref m0, .ref m1, .ref mu, .ref mv, .ref u0, .ref u1, .ref iz, .int th, .ref mb, .int mn, .int mpt, .int mbg, .int mwr, .int mwk, .int mlf, .int men])), (mw, .inl (ct 0, 958, .inl f))] ++ ws) s.heap.size = A at hD hX ⊢
  have hA : ∀ q : Nat, s.heap.size ≤ q → A q := fun q h => by rw [← hAe]; exact Or.inr h
  have hS : va_S A s.heap s.heap [] := va_S.rf
  have hl := lv_entry ([.ref mo, .int p1, .int 2]) (n := 3) (Nat.le_of_ble_eq_true rfl)
  rw [lg_entry_eq]
  generalize (lg_sl ([.ref mo, .int p1, .int 2]) ++ List.replicate (3 - (lg_sl ([.ref mo, .int p1, .int 2])).length) Slot.unset).toArray = ls at hl ⊢
  have hl : lv_has ls 3 [(0, .ref mo), (1, .int p1), (2, .int 2)] := hl
  refine lv_aload_n hx hb dX11_step_0 rfl (lv_at hl 0 rfl) ?_
  refine lv_aload_n hx hb dX11_step_1 rfl (lv_at hl 0 rfl) ?_
  refine lv_iload_n hx hb dX11_step_2 rfl (lv_at hl 1 rfl) ?_
  refine lv_iconst (v := 1) hx hb dX11_step_3 (by decide) ?_
  refine ty_ki (wr := []) (wc := ([(mo, .inr (11, [.ref mw, .ref ma, .ref mf, .ref m0, .ref m1, .ref mu, .ref mv, .ref u0, .ref u1, .ref iz, .int th, .ref mb, .int mn, .int mpt, .int mbg, .int mwr, .int mwk, .int mlf, .int men])), (mw, .inl (ct 0, 958, .inl f))] ++ ws)) (va_runV (As := [.int p1, .int 1]) (rest := [.ref mo]) ⟨hx, hb, hml, hown, hts⟩ (m_of_1 l D ct S ws mo mw ma mf m0 m1 mu mv u0 u1 iz mb th mn mpt mbg mwr mwk mlf men f G cx p1 _ hT h_mu h_mv h_u0 h_u1 hR hc) (cm_V 2 hts kc_X11_of ki_RX11 kl_RX11_209 kv_X11_of kx_X11_of kd_X11_of ⟨Nat.le_of_ble_eq_true rfl, Nat.le_of_ble_eq_true rfl⟩) (ty_preE (wr := []) (wc := ([(mo, .inr (11, [.ref mw, .ref ma, .ref mf, .ref m0, .ref m1, .ref mu, .ref mv, .ref u0, .ref u1, .ref iz, .int th, .ref mb, .int mn, .int mpt, .int mbg, .int mwr, .int mwk, .int mlf, .int men])), (mw, .inl (ct 0, 958, .inl f))] ++ ws)) (ci := 11) (q0 := 0) hP hK hD hS hA hX rfl rfl) rfl rfl hl.1 rfl (lv_room (Nat.le_of_ble_eq_true rfl)) dX11_step_4 ⟨Nat.le_of_ble_eq_true rfl, Nat.le_of_ble_eq_true rfl⟩) hP hD hS hA (fun r_1 u H locs hw_2 hP hD hS => ?_)
  obtain ⟨ws_3, rfl⟩ : ∃ z, z = u := ⟨_, rfl⟩
  obtain ⟨hT, rfl⟩ := hw_2
  have hP : va_P D vwCl ([(mo, .inr (11, [.ref mw, .ref ma, .ref mf, .ref m0, .ref m1, .ref mu, .ref mv, .ref u0, .ref u1, .ref iz, .int th, .ref mb, .int mn, .int mpt, .int mbg, .int mwr, .int mwk, .int mlf, .int men])), (mw, .inl (ct 0, 958, .inl f))] ++ ws_3) H := hP
  have hD : va_D A ([(mo, .inr (11, [.ref mw, .ref ma, .ref mf, .ref m0, .ref m1, .ref mu, .ref mv, .ref u0, .ref u1, .ref iz, .int th, .ref mb, .int mn, .int mpt, .int mbg, .int mwr, .int mwk, .int mlf, .int men])), (mw, .inl (ct 0, 958, .inl f))] ++ ws_3) := hD
  refine lv_aload_n hx hb dX11_step_7 rfl (lv_at hl 0 rfl) ?_
  refine lv_iload_n hx hb dX11_step_8 rfl (lv_at hl 1 rfl) ?_
  refine lv_iconst (v := 2) hx hb dX11_step_9 (by decide) ?_
  refine ty_ki (wr := []) (wc := ([(mo, .inr (11, [.ref mw, .ref ma, .ref mf, .ref m0, .ref m1, .ref mu, .ref mv, .ref u0, .ref u1, .ref iz, .int th, .ref mb, .int mn, .int mpt, .int mbg, .int mwr, .int mwk, .int mlf, .int men])), (mw, .inl (ct 0, 958, .inl f))] ++ ws_3)) (va_runV (As := [.int p1, .int 2]) (rest := [.int (rf_of f p1 1), .ref mo]) ⟨hx, hb, hml, hown, hts⟩ (m_of_2 l D ct S ws_3 mo mw ma mf m0 m1 mu mv u0 u1 iz mb th mn mpt mbg mwr mwk mlf men f G cx p1 _ hT h_mu h_mv h_u0 h_u1 hR hc) (cm_V 2 hts kc_X11_of ki_RX11 kl_RX11_209 kv_X11_of kx_X11_of kd_X11_of ⟨Nat.le_of_ble_eq_true rfl, Nat.le_of_ble_eq_true rfl⟩) (ty_preE (wr := []) (wc := ([(mo, .inr (11, [.ref mw, .ref ma, .ref mf, .ref m0, .ref m1, .ref mu, .ref mv, .ref u0, .ref u1, .ref iz, .int th, .ref mb, .int mn, .int mpt, .int mbg, .int mwr, .int mwk, .int mlf, .int men])), (mw, .inl (ct 0, 958, .inl f))] ++ ws_3)) (ci := 11) (q0 := 0) hP hK hD hS hA hX rfl rfl) rfl rfl hl.1 rfl (lv_room (Nat.le_of_ble_eq_true rfl)) dX11_step_10 ⟨Nat.le_of_ble_eq_true rfl, Nat.le_of_ble_eq_true rfl⟩) hP hD hS hA (fun r_4 u H locs hw_5 hP hD hS => ?_)
  obtain ⟨ws_6, rfl⟩ : ∃ z, z = u := ⟨_, rfl⟩
  obtain ⟨hT, rfl⟩ := hw_5
  have hP : va_P D vwCl ([(mo, .inr (11, [.ref mw, .ref ma, .ref mf, .ref m0, .ref m1, .ref mu, .ref mv, .ref u0, .ref u1, .ref iz, .int th, .ref mb, .int mn, .int mpt, .int mbg, .int mwr, .int mwk, .int mlf, .int men])), (mw, .inl (ct 0, 958, .inl f))] ++ ws_6) H := hP
  have hD : va_D A ([(mo, .inr (11, [.ref mw, .ref ma, .ref mf, .ref m0, .ref m1, .ref mu, .ref mv, .ref u0, .ref u1, .ref iz, .int th, .ref mb, .int mn, .int mpt, .int mbg, .int mwr, .int mwk, .int mlf, .int men])), (mw, .inl (ct 0, 958, .inl f))] ++ ws_6) := hD
  refine lv_iload_n hx hb dX11_step_13 rfl (lv_at hl 2 rfl) ?_
  refine ty_ki (wr := []) (wc := ([(mo, .inr (11, [.ref mw, .ref ma, .ref mf, .ref m0, .ref m1, .ref mu, .ref mv, .ref u0, .ref u1, .ref iz, .int th, .ref mb, .int mn, .int mpt, .int mbg, .int mwr, .int mwk, .int mlf, .int men])), (mw, .inl (ct 0, 958, .inl f))] ++ ws_6)) (va_runV (As := [.int (rf_of f p1 1), .int (rf_of f p1 2), .int 2]) (rest := []) ⟨hx, hb, hml, hown, hts⟩ (m_stepOf_2 l D ct S ws_6 mo mw ma mf m0 m1 mu mv u0 u1 iz mb th mn mpt mbg mwr mwk mlf men f G cx (rf_of f p1 1) (rf_of f p1 2) _ hT h_mu h_mv h_u0 h_u1 hR (rf_onp hR ho).1 (rf_onp hR ho).2) (cm_V 3 hts kc_X11_stepOf ki_RX11 kl_RX11_218 kv_X11_stepOf kx_X11_stepOf kd_X11_stepOf ⟨Nat.le_of_ble_eq_true rfl, Nat.le_of_ble_eq_true rfl⟩) (ty_preE (wr := []) (wc := ([(mo, .inr (11, [.ref mw, .ref ma, .ref mf, .ref m0, .ref m1, .ref mu, .ref mv, .ref u0, .ref u1, .ref iz, .int th, .ref mb, .int mn, .int mpt, .int mbg, .int mwr, .int mwk, .int mlf, .int men])), (mw, .inl (ct 0, 958, .inl f))] ++ ws_6)) (ci := 11) (q0 := 0) hP hK hD hS hA hX rfl rfl) rfl rfl hl.1 rfl (lv_room (Nat.le_of_ble_eq_true rfl)) dX11_step_14 ⟨Nat.le_of_ble_eq_true rfl, Nat.le_of_ble_eq_true rfl⟩) hP hD hS hA (fun r_7 u H locs hw_8 hP hD hS => ?_)
  obtain ⟨ws_9, rfl⟩ : ∃ z, z = u := ⟨_, rfl⟩
  obtain ⟨hT, rfl⟩ := hw_8
  have hP : va_P D vwCl ([(mo, .inr (11, [.ref mw, .ref ma, .ref mf, .ref m0, .ref m1, .ref mu, .ref mv, .ref u0, .ref u1, .ref iz, .int th, .ref mb, .int mn, .int mpt, .int mbg, .int mwr, .int mwk, .int mlf, .int men])), (mw, .inl (ct 0, 958, .inl f))] ++ ws_9) H := hP
  have hD : va_D A ([(mo, .inr (11, [.ref mw, .ref ma, .ref mf, .ref m0, .ref m1, .ref mu, .ref mv, .ref u0, .ref u1, .ref iz, .int th, .ref mb, .int mn, .int mpt, .int mbg, .int mwr, .int mwk, .int mlf, .int men])), (mw, .inl (ct 0, 958, .inl f))] ++ ws_9) := hD
  exact W.iret (v := (f (97 + 37 * (rf_of f p1 1).toInt.toNat + 3 * (rf_of f p1 2).toInt.toNat + 2))) hx hb hr (fun t ht hW => ⟨⟨(f (97 + 37 * (rf_of f p1 1).toInt.toNat + 3 * (rf_of f p1 2).toInt.toNat + 2)), ws_9, rfl, ⟨hT, rfl⟩, by rw [ht]; exact hP, by rw [hAe]; exact hD⟩, hS.F ht⟩) hS.2.2 dX11_step_17
theorem dX11_restAt_0 : decode cX11_restAt 0 = .ok (.aload_n 0, 1) := by decide +kernel
theorem dX11_restAt_1 : decode cX11_restAt 1 = .ok (.iload_n 1, 1) := by decide +kernel
theorem dX11_restAt_2 : decode cX11_restAt 2 = .ok (.bipush 11, 2) := by decide +kernel
theorem dX11_restAt_4 : decode cX11_restAt 4 = .ok (.invokevirtual 209, 3) := by decide +kernel
theorem dX11_restAt_7 : decode cX11_restAt 7 = .ok (.istore_n 3, 1) := by decide +kernel
theorem dX11_restAt_8 : decode cX11_restAt 8 = .ok (.aload_n 0, 1) := by decide +kernel
theorem dX11_restAt_9 : decode cX11_restAt 9 = .ok (.iload_n 3, 1) := by decide +kernel
theorem dX11_restAt_10 : decode cX11_restAt 10 = .ok (.invokevirtual 212, 3) := by decide +kernel
theorem dX11_restAt_13 : decode cX11_restAt 13 = .ok (.iconst 1, 1) := by decide +kernel
theorem dX11_restAt_14 : decode cX11_restAt 14 = .ok (.isub, 1) := by decide +kernel
theorem dX11_restAt_15 : decode cX11_restAt 15 = .ok (.istore 4, 2) := by decide +kernel
theorem dX11_restAt_17 : decode cX11_restAt 17 = .ok (.aload_n 0, 1) := by decide +kernel
theorem dX11_restAt_18 : decode cX11_restAt 18 = .ok (.iload_n 1, 1) := by decide +kernel
theorem dX11_restAt_19 : decode cX11_restAt 19 = .ok (.bipush 7, 2) := by decide +kernel
theorem dX11_restAt_21 : decode cX11_restAt 21 = .ok (.invokevirtual 209, 3) := by decide +kernel
theorem dX11_restAt_24 : decode cX11_restAt 24 = .ok (.i2l, 1) := by decide +kernel
theorem dX11_restAt_25 : decode cX11_restAt 25 = .ok (.lstore 5, 2) := by decide +kernel
theorem dX11_restAt_27 : decode cX11_restAt 27 = .ok (.iload_n 2, 1) := by decide +kernel
theorem dX11_restAt_28 : decode cX11_restAt 28 = .ok (.i2l, 1) := by decide +kernel
theorem dX11_restAt_29 : decode cX11_restAt 29 = .ok (.iload 4, 2) := by decide +kernel
theorem dX11_restAt_31 : decode cX11_restAt 31 = .ok (.i2l, 1) := by decide +kernel
theorem dX11_restAt_32 : decode cX11_restAt 32 = .ok (.lmul, 1) := by decide +kernel
theorem dX11_restAt_33 : decode cX11_restAt 33 = .ok (.lstore 7, 2) := by decide +kernel
theorem dX11_restAt_35 : decode cX11_restAt 35 = .ok (.lload 7, 2) := by decide +kernel
theorem dX11_restAt_37 : decode cX11_restAt 37 = .ok (.lload 5, 2) := by decide +kernel
theorem dX11_restAt_39 : decode cX11_restAt 39 = .ok (.ldiv, 1) := by decide +kernel
theorem dX11_restAt_40 : decode cX11_restAt 40 = .ok (.iload 4, 2) := by decide +kernel
theorem dX11_restAt_42 : decode cX11_restAt 42 = .ok (.iconst 1, 1) := by decide +kernel
theorem dX11_restAt_43 : decode cX11_restAt 43 = .ok (.isub, 1) := by decide +kernel
theorem dX11_restAt_44 : decode cX11_restAt 44 = .ok (.i2l, 1) := by decide +kernel
theorem dX11_restAt_45 : decode cX11_restAt 45 = .ok (.invokestatic 119, 3) := by decide +kernel
theorem dX11_restAt_48 : decode cX11_restAt 48 = .ok (.l2i, 1) := by decide +kernel
theorem dX11_restAt_49 : decode cX11_restAt 49 = .ok (.istore 9, 2) := by decide +kernel
theorem dX11_restAt_51 : decode cX11_restAt 51 = .ok (.aload_n 0, 1) := by decide +kernel
theorem dX11_restAt_52 : decode cX11_restAt 52 = .ok (.iload_n 3, 1) := by decide +kernel
theorem dX11_restAt_53 : decode cX11_restAt 53 = .ok (.iload 9, 2) := by decide +kernel
theorem dX11_restAt_55 : decode cX11_restAt 55 = .ok (.iconst 1, 1) := by decide +kernel
theorem dX11_restAt_56 : decode cX11_restAt 56 = .ok (.iadd, 1) := by decide +kernel
theorem dX11_restAt_57 : decode cX11_restAt 57 = .ok (.invokevirtual 215, 3) := by decide +kernel
theorem dX11_restAt_60 : decode cX11_restAt 60 = .ok (.aload_n 0, 1) := by decide +kernel
theorem dX11_restAt_61 : decode cX11_restAt 61 = .ok (.iload_n 3, 1) := by decide +kernel
theorem dX11_restAt_62 : decode cX11_restAt 62 = .ok (.iload 9, 2) := by decide +kernel
theorem dX11_restAt_64 : decode cX11_restAt 64 = .ok (.invokevirtual 215, 3) := by decide +kernel
theorem dX11_restAt_67 : decode cX11_restAt 67 = .ok (.isub, 1) := by decide +kernel
theorem dX11_restAt_68 : decode cX11_restAt 68 = .ok (.i2l, 1) := by decide +kernel
theorem dX11_restAt_69 : decode cX11_restAt 69 = .ok (.lstore 10, 2) := by decide +kernel
theorem dX11_restAt_71 : decode cX11_restAt 71 = .ok (.aload_n 0, 1) := by decide +kernel
theorem dX11_restAt_72 : decode cX11_restAt 72 = .ok (.iload_n 3, 1) := by decide +kernel
theorem dX11_restAt_73 : decode cX11_restAt 73 = .ok (.iload 9, 2) := by decide +kernel
theorem dX11_restAt_75 : decode cX11_restAt 75 = .ok (.invokevirtual 215, 3) := by decide +kernel
theorem dX11_restAt_78 : decode cX11_restAt 78 = .ok (.lload 10, 2) := by decide +kernel
theorem dX11_restAt_80 : decode cX11_restAt 80 = .ok (.lload 7, 2) := by decide +kernel
theorem dX11_restAt_82 : decode cX11_restAt 82 = .ok (.iload 9, 2) := by decide +kernel
theorem dX11_restAt_84 : decode cX11_restAt 84 = .ok (.i2l, 1) := by decide +kernel
theorem dX11_restAt_85 : decode cX11_restAt 85 = .ok (.lload 5, 2) := by decide +kernel
theorem dX11_restAt_87 : decode cX11_restAt 87 = .ok (.lmul, 1) := by decide +kernel
theorem dX11_restAt_88 : decode cX11_restAt 88 = .ok (.lsub, 1) := by decide +kernel
theorem dX11_restAt_89 : decode cX11_restAt 89 = .ok (.lmul, 1) := by decide +kernel
theorem dX11_restAt_90 : decode cX11_restAt 90 = .ok (.lload 5, 2) := by decide +kernel
theorem dX11_restAt_92 : decode cX11_restAt 92 = .ok (.ldiv, 1) := by decide +kernel
theorem dX11_restAt_93 : decode cX11_restAt 93 = .ok (.l2i, 1) := by decide +kernel
theorem dX11_restAt_94 : decode cX11_restAt 94 = .ok (.iadd, 1) := by decide +kernel
theorem dX11_restAt_95 : decode cX11_restAt 95 = .ok (.ireturn, 1) := by decide +kernel
set_option maxRecDepth 100000 in
set_option maxHeartbeats 4000000 in
theorem m_X11_restAt (l : Launch) (D : va_G) (ct : Nat → ClassId) (S : ty_S) (ws : va_W) (mo : Nat) (mw : Nat) (ma : Nat) (mf : Nat) (m0 : Nat) (m1 : Nat) (mu : Nat) (mv : Nat) (u0 : Nat) (u1 : Nat) (iz : Nat) (mb : Nat) (th : Int32) (mn : Int32) (mpt : Int32) (mbg : Int32) (mwr : Int32) (mwk : Int32) (mlf : Int32) (men : Int32) (f : Nat → Int32) (G : Nat → Int32) (cx : Int) (p1 : Int32) (p2 : Int32) (sz : Nat) (hT : ty_W ct S ws) (h_mu : S mu = some (.inr (1, 42))) (h_mv : S mv = some (.inr (1, 42))) (h_u0 : S u0 = some (.inr (1, 42))) (h_u1 : S u1 = some (.inr (1, 42))) (hR : rf_R G cx f) (hc : 0 ≤ p1.toInt ∧ p1.toInt < (G 9).toInt) (hq : 0 ≤ p2.toInt) : Met l yX11_restAt (ws_ yX11_restAt cX11_restAt 12 (some .int)) ({ frames := 1, cells := 0, slots := 0, locals := 22 } : Room) (va_Pc [.ref mo, .int p1, .int p2] (cmP D ct sz ([(mo, .inr (11, [.ref mw, .ref ma, .ref mf, .ref m0, .ref m1, .ref mu, .ref mv, .ref u0, .ref u1, .ref iz, .int th, .ref mb, .int mn, .int mpt, .int mbg, .int mwr, .int mwk, .int mlf, .int men])), (mw, .inl (ct 0, 958, .inl f))] ++ ws))) (va_Qi (fun (r : Int32) (u9 : va_W) => ty_W ct S u9) (cmB D ([(mo, .inr (11, [.ref mw, .ref ma, .ref mf, .ref m0, .ref m1, .ref mu, .ref mv, .ref u0, .ref u1, .ref iz, .int th, .ref mb, .int mn, .int mpt, .int mbg, .int mwr, .int mwk, .int mlf, .int men])), (mw, .inl (ct 0, 958, .inl f))] ++ ws) sz (fun (u9 : va_W) => ([(mo, .inr (11, [.ref mw, .ref ma, .ref mf, .ref m0, .ref m1, .ref mu, .ref mv, .ref u0, .ref u1, .ref iz, .int th, .ref mb, .int mn, .int mpt, .int mbg, .int mwr, .int mwk, .int mlf, .int men])), (mw, .inl (ct 0, 958, .inl f))] ++ u9))) (va_A ([(mo, .inr (11, [.ref mw, .ref ma, .ref mf, .ref m0, .ref m1, .ref mu, .ref mv, .ref u0, .ref u1, .ref iz, .int th, .ref mb, .int mn, .int mpt, .int mbg, .int mwr, .int mwk, .int mlf, .int men])), (mw, .inl (ct 0, 958, .inl f))] ++ ws) sz)) 0 0 (va_A ([(mo, .inr (11, [.ref mw, .ref ma, .ref mf, .ref m0, .ref m1, .ref mu, .ref mv, .ref u0, .ref u1, .ref iz, .int th, .ref mb, .int mn, .int mpt, .int mbg, .int mwr, .int mwk, .int mlf, .int men])), (mw, .inl (ct 0, 958, .inl f))] ++ ws) sz) := by
  refine Met.ofW (cc := cX11_restAt) (maxL := 12) (ret := (some .int)) (by decide) rfl ?_
  intro p e s m args below meth c s₁ B hml hv
  obtain ⟨rfl, hsz, hP, hK, hD0, hX⟩ := hv
  have hx := B.exec
  have hb := B.bytes
  have hr := B.returns
  have hts := ws_all (atoms_spec (ws := ws_ yX11_restAt cX11_restAt 12 (some .int)) B.pre)
  have hown : s.vm.findClass RX11 = some m.cls := findClass_of_methodNamed B.named
  have hlocks := B.notSynchronized
  subst hsz
  have hD := hD0.self (sz := s.heap.size)
  generalize hAe : va_A ([(mo, .inr (11, [.ref mw, .ref ma, .ref mf, .ref m0, .ref m1, .ref mu, .ref mv, .ref u0, .ref u1, .ref iz, .int th, .ref mb, .int mn, .int mpt, .int mbg, .int mwr, .int mwk, .int mlf, .int men])), (mw, .inl (ct 0, 958, .inl f))] ++ ws) s.heap.size = A at hD hX ⊢
  have hA : ∀ q : Nat, s.heap.size ≤ q → A q := fun q h => by rw [← hAe]; exact Or.inr h
  have hS : va_S A s.heap s.heap [] := va_S.rf
  have hl := lv_entry ([.ref mo, .int p1, .int p2]) (n := 12) (Nat.le_of_ble_eq_true rfl)
  rw [lg_entry_eq]
  generalize (lg_sl ([.ref mo, .int p1, .int p2]) ++ List.replicate (12 - (lg_sl ([.ref mo, .int p1, .int p2])).length) Slot.unset).toArray = ls at hl ⊢
  have hl : lv_has ls 12 [(0, .ref mo), (1, .int p1), (2, .int p2)] := hl
  refine lv_aload_n hx hb dX11_restAt_0 rfl (lv_at hl 0 rfl) ?_
  refine lv_iload_n hx hb dX11_restAt_1 rfl (lv_at hl 1 rfl) ?_
  refine lv_bipush (v := 11) hx hb dX11_restAt_2 (by decide) ?_
  refine ty_ki (wr := []) (wc := ([(mo, .inr (11, [.ref mw, .ref ma, .ref mf, .ref m0, .ref m1, .ref mu, .ref mv, .ref u0, .ref u1, .ref iz, .int th, .ref mb, .int mn, .int mpt, .int mbg, .int mwr, .int mwk, .int mlf, .int men])), (mw, .inl (ct 0, 958, .inl f))] ++ ws)) (va_runV (As := [.int p1, .int 11]) (rest := []) ⟨hx, hb, hml, hown, hts⟩ (m_of_11 l D ct S ws mo mw ma mf m0 m1 mu mv u0 u1 iz mb th mn mpt mbg mwr mwk mlf men f G cx p1 _ hT h_mu h_mv h_u0 h_u1 hR hc) (cm_V 2 hts kc_X11_of ki_RX11 kl_RX11_209 kv_X11_of kx_X11_of kd_X11_of ⟨Nat.le_of_ble_eq_true rfl, Nat.le_of_ble_eq_true rfl⟩) (ty_preE (wr := []) (wc := ([(mo, .inr (11, [.ref mw, .ref ma, .ref mf, .ref m0, .ref m1, .ref mu, .ref mv, .ref u0, .ref u1, .ref iz, .int th, .ref mb, .int mn, .int mpt, .int mbg, .int mwr, .int mwk, .int mlf, .int men])), (mw, .inl (ct 0, 958, .inl f))] ++ ws)) (ci := 11) (q0 := 0) hP hK hD hS hA hX rfl rfl) rfl rfl hl.1 rfl (lv_room (Nat.le_of_ble_eq_true rfl)) dX11_restAt_4 ⟨Nat.le_of_ble_eq_true rfl, Nat.le_of_ble_eq_true rfl⟩) hP hD hS hA (fun r_1 u H locs hw_2 hP hD hS => ?_)
  obtain ⟨ws_3, rfl⟩ : ∃ z, z = u := ⟨_, rfl⟩
  obtain ⟨hT, rfl⟩ := hw_2
  have hP : va_P D vwCl ([(mo, .inr (11, [.ref mw, .ref ma, .ref mf, .ref m0, .ref m1, .ref mu, .ref mv, .ref u0, .ref u1, .ref iz, .int th, .ref mb, .int mn, .int mpt, .int mbg, .int mwr, .int mwk, .int mlf, .int men])), (mw, .inl (ct 0, 958, .inl f))] ++ ws_3) H := hP
  have hD : va_D A ([(mo, .inr (11, [.ref mw, .ref ma, .ref mf, .ref m0, .ref m1, .ref mu, .ref mv, .ref u0, .ref u1, .ref iz, .int th, .ref mb, .int mn, .int mpt, .int mbg, .int mwr, .int mwk, .int mlf, .int men])), (mw, .inl (ct 0, 958, .inl f))] ++ ws_3) := hD
  refine lv_istore_n (lv' := [(3, .int (rf_of f p1 11)), (0, .ref mo), (1, .int p1), (2, .int p2)]) hx hb dX11_restAt_7 rfl hl (by decide) rfl (fun ls hl => ?_)
  refine lv_aload_n hx hb dX11_restAt_8 rfl (lv_at hl 1 rfl) ?_
  refine lv_iload_n hx hb dX11_restAt_9 rfl (lv_at hl 0 rfl) ?_
  refine ty_ki (wr := []) (wc := ([(mo, .inr (11, [.ref mw, .ref ma, .ref mf, .ref m0, .ref m1, .ref mu, .ref mv, .ref u0, .ref u1, .ref iz, .int th, .ref mb, .int mn, .int mpt, .int mbg, .int mwr, .int mwk, .int mlf, .int men])), (mw, .inl (ct 0, 958, .inl f))] ++ ws_3)) (va_runV (As := [.int (rf_of f p1 11)]) (rest := []) ⟨hx, hb, hml, hown, hts⟩ (m_X11_voltsMany l D ct S ws_3 mo mw ma mf m0 m1 mu mv u0 u1 iz mb th mn mpt mbg mwr mwk mlf men f G cx (rf_of f p1 11) _ hT h_mu h_mv h_u0 h_u1 hR (rf_stat hR hc).1.1) (cm_V 1 hts kc_X11_voltsMany ki_RX11 kl_RX11_212 kv_X11_voltsMany kx_X11_voltsMany kd_X11_voltsMany ⟨Nat.le_of_ble_eq_true rfl, Nat.le_of_ble_eq_true rfl⟩) (ty_preE (wr := []) (wc := ([(mo, .inr (11, [.ref mw, .ref ma, .ref mf, .ref m0, .ref m1, .ref mu, .ref mv, .ref u0, .ref u1, .ref iz, .int th, .ref mb, .int mn, .int mpt, .int mbg, .int mwr, .int mwk, .int mlf, .int men])), (mw, .inl (ct 0, 958, .inl f))] ++ ws_3)) (ci := 11) (q0 := 0) hP hK hD hS hA hX rfl rfl) rfl rfl hl.1 rfl (lv_room (Nat.le_of_ble_eq_true rfl)) dX11_restAt_10 ⟨Nat.le_of_ble_eq_true rfl, Nat.le_of_ble_eq_true rfl⟩) hP hD hS hA (fun r_4 u H locs hw_5 hP hD hS => ?_)
  obtain ⟨ws_6, rfl⟩ : ∃ z, z = u := ⟨_, rfl⟩
  obtain ⟨hT, rfl⟩ := hw_5
  have hP : va_P D vwCl ([(mo, .inr (11, [.ref mw, .ref ma, .ref mf, .ref m0, .ref m1, .ref mu, .ref mv, .ref u0, .ref u1, .ref iz, .int th, .ref mb, .int mn, .int mpt, .int mbg, .int mwr, .int mwk, .int mlf, .int men])), (mw, .inl (ct 0, 958, .inl f))] ++ ws_6) H := hP
  have hD : va_D A ([(mo, .inr (11, [.ref mw, .ref ma, .ref mf, .ref m0, .ref m1, .ref mu, .ref mv, .ref u0, .ref u1, .ref iz, .int th, .ref mb, .int mn, .int mpt, .int mbg, .int mwr, .int mwk, .int mlf, .int men])), (mw, .inl (ct 0, 958, .inl f))] ++ ws_6) := hD
  refine lv_iconst (v := 1) hx hb dX11_restAt_13 (by decide) ?_
  refine lv_isub hx hb dX11_restAt_14 ?_
  refine lv_istore (lv' := [(4, .int ((f (20 + 19 * (rf_of f p1 11).toInt.toNat + 7)) - 1)), (3, .int (rf_of f p1 11)), (0, .ref mo), (1, .int p1), (2, .int p2)]) hx hb dX11_restAt_15 hl (by decide) rfl (fun ls hl => ?_)
  refine lv_aload_n hx hb dX11_restAt_17 rfl (lv_at hl 2 rfl) ?_
  refine lv_iload_n hx hb dX11_restAt_18 rfl (lv_at hl 3 rfl) ?_
  refine lv_bipush (v := 7) hx hb dX11_restAt_19 (by decide) ?_
  refine ty_ki (wr := []) (wc := ([(mo, .inr (11, [.ref mw, .ref ma, .ref mf, .ref m0, .ref m1, .ref mu, .ref mv, .ref u0, .ref u1, .ref iz, .int th, .ref mb, .int mn, .int mpt, .int mbg, .int mwr, .int mwk, .int mlf, .int men])), (mw, .inl (ct 0, 958, .inl f))] ++ ws_6)) (va_runV (As := [.int p1, .int 7]) (rest := []) ⟨hx, hb, hml, hown, hts⟩ (m_of_7 l D ct S ws_6 mo mw ma mf m0 m1 mu mv u0 u1 iz mb th mn mpt mbg mwr mwk mlf men f G cx p1 _ hT h_mu h_mv h_u0 h_u1 hR hc) (cm_V 2 hts kc_X11_of ki_RX11 kl_RX11_209 kv_X11_of kx_X11_of kd_X11_of ⟨Nat.le_of_ble_eq_true rfl, Nat.le_of_ble_eq_true rfl⟩) (ty_preE (wr := []) (wc := ([(mo, .inr (11, [.ref mw, .ref ma, .ref mf, .ref m0, .ref m1, .ref mu, .ref mv, .ref u0, .ref u1, .ref iz, .int th, .ref mb, .int mn, .int mpt, .int mbg, .int mwr, .int mwk, .int mlf, .int men])), (mw, .inl (ct 0, 958, .inl f))] ++ ws_6)) (ci := 11) (q0 := 0) hP hK hD hS hA hX rfl rfl) rfl rfl hl.1 rfl (lv_room (Nat.le_of_ble_eq_true rfl)) dX11_restAt_21 ⟨Nat.le_of_ble_eq_true rfl, Nat.le_of_ble_eq_true rfl⟩) hP hD hS hA (fun r_7 u H locs hw_8 hP hD hS => ?_)
  obtain ⟨ws_9, rfl⟩ : ∃ z, z = u := ⟨_, rfl⟩
  obtain ⟨hT, rfl⟩ := hw_8
  have hP : va_P D vwCl ([(mo, .inr (11, [.ref mw, .ref ma, .ref mf, .ref m0, .ref m1, .ref mu, .ref mv, .ref u0, .ref u1, .ref iz, .int th, .ref mb, .int mn, .int mpt, .int mbg, .int mwr, .int mwk, .int mlf, .int men])), (mw, .inl (ct 0, 958, .inl f))] ++ ws_9) H := hP
  have hD : va_D A ([(mo, .inr (11, [.ref mw, .ref ma, .ref mf, .ref m0, .ref m1, .ref mu, .ref mv, .ref u0, .ref u1, .ref iz, .int th, .ref mb, .int mn, .int mpt, .int mbg, .int mwr, .int mwk, .int mlf, .int men])), (mw, .inl (ct 0, 958, .inl f))] ++ ws_9) := hD
  refine lv_i2l hx hb dX11_restAt_24 rfl ?_
  refine lv_lstore (lv' := [(5, .long ((rf_of f p1 7).toInt64)), (4, .int ((f (20 + 19 * (rf_of f p1 11).toInt.toNat + 7)) - 1)), (3, .int (rf_of f p1 11)), (0, .ref mo), (1, .int p1), (2, .int p2)]) hx hb dX11_restAt_25 hl (by decide) rfl (fun ls hl => ?_)
  refine lv_iload_n hx hb dX11_restAt_27 rfl (lv_at hl 5 rfl) ?_
  refine lv_i2l hx hb dX11_restAt_28 rfl ?_
  refine lv_iload hx hb dX11_restAt_29 (lv_at hl 1 rfl) ?_
  refine lv_i2l hx hb dX11_restAt_31 rfl ?_
  refine lv_lmul hx hb dX11_restAt_32 ?_
  refine lv_lstore (lv' := [(7, .long (p2.toInt64 * (((f (20 + 19 * (rf_of f p1 11).toInt.toNat + 7)) - 1).toInt64))), (5, .long ((rf_of f p1 7).toInt64)), (4, .int ((f (20 + 19 * (rf_of f p1 11).toInt.toNat + 7)) - 1)), (3, .int (rf_of f p1 11)), (0, .ref mo), (1, .int p1), (2, .int p2)]) hx hb dX11_restAt_33 hl (by decide) rfl (fun ls hl => ?_)
  refine lv_lload hx hb dX11_restAt_35 (lv_at hl 0 rfl) ?_
  refine lv_lload hx hb dX11_restAt_37 (lv_at hl 1 rfl) ?_
  refine lv_ldiv hx hb dX11_restAt_39 (rf_nzl (by have := rf_full hR hc; omega)) ?_
  refine lv_iload hx hb dX11_restAt_40 (lv_at hl 2 rfl) ?_
  refine lv_iconst (v := 1) hx hb dX11_restAt_42 (by decide) ?_
  refine lv_isub hx hb dX11_restAt_43 ?_
  refine lv_i2l hx hb dX11_restAt_44 rfl ?_
  refine va_mmin_long hx hb (hml.trans hl.1.symm) hown (hts _ kl_RX11_119) (hts _ jm_min_long_s) (hts _ ki_RJ9) (hts _ jm_min_long_c) (Nat.le_of_ble_eq_true rfl) (Nat.le_of_ble_eq_true rfl) (Nat.le_of_ble_eq_true rfl) (Nat.le_of_ble_eq_true rfl) dX11_restAt_45 ?_
  refine lv_l2i hx hb dX11_restAt_48 rfl ?_
  refine lv_topi (fun k_9 hk_9 => ?_)
  have hk_8 := rf_rk hq (rf_stat hR hc).1.2 (rf_full hR hc) hk_9
  refine lv_istore (lv' := [(9, .int k_9), (7, .long (p2.toInt64 * (((f (20 + 19 * (rf_of f p1 11).toInt.toNat + 7)) - 1).toInt64))), (5, .long ((rf_of f p1 7).toInt64)), (4, .int ((f (20 + 19 * (rf_of f p1 11).toInt.toNat + 7)) - 1)), (3, .int (rf_of f p1 11)), (0, .ref mo), (1, .int p1), (2, .int p2)]) hx hb dX11_restAt_49 hl (by decide) rfl (fun ls hl => ?_)
  refine lv_aload_n hx hb dX11_restAt_51 rfl (lv_at hl 5 rfl) ?_
  refine lv_iload_n hx hb dX11_restAt_52 rfl (lv_at hl 4 rfl) ?_
  refine lv_iload hx hb dX11_restAt_53 (lv_at hl 0 rfl) ?_
  refine lv_iconst (v := 1) hx hb dX11_restAt_55 (by decide) ?_
  refine lv_iadd hx hb dX11_restAt_56 ?_
  refine ty_ki (wr := []) (wc := ([(mo, .inr (11, [.ref mw, .ref ma, .ref mf, .ref m0, .ref m1, .ref mu, .ref mv, .ref u0, .ref u1, .ref iz, .int th, .ref mb, .int mn, .int mpt, .int mbg, .int mwr, .int mwk, .int mlf, .int men])), (mw, .inl (ct 0, 958, .inl f))] ++ ws_9)) (va_runV (As := [.int (rf_of f p1 11), .int (k_9 + 1)]) (rest := []) ⟨hx, hb, hml, hown, hts⟩ (m_X11_volts l D ct S ws_9 mo mw ma mf m0 m1 mu mv u0 u1 iz mb th mn mpt mbg mwr mwk mlf men f G cx (rf_of f p1 11) (k_9 + 1) _ hT h_mu h_mv h_u0 h_u1 hR (rf_stat hR hc).1.1 (rf_rk1 hk_8)) (cm_V 2 hts kc_X11_volts ki_RX11 kl_RX11_215 kv_X11_volts kx_X11_volts kd_X11_volts ⟨Nat.le_of_ble_eq_true rfl, Nat.le_of_ble_eq_true rfl⟩) (ty_preE (wr := []) (wc := ([(mo, .inr (11, [.ref mw, .ref ma, .ref mf, .ref m0, .ref m1, .ref mu, .ref mv, .ref u0, .ref u1, .ref iz, .int th, .ref mb, .int mn, .int mpt, .int mbg, .int mwr, .int mwk, .int mlf, .int men])), (mw, .inl (ct 0, 958, .inl f))] ++ ws_9)) (ci := 11) (q0 := 0) hP hK hD hS hA hX rfl rfl) rfl rfl hl.1 rfl (lv_room (Nat.le_of_ble_eq_true rfl)) dX11_restAt_57 ⟨Nat.le_of_ble_eq_true rfl, Nat.le_of_ble_eq_true rfl⟩) hP hD hS hA (fun r_10 u H locs hw_11 hP hD hS => ?_)
  obtain ⟨ws_12, rfl⟩ : ∃ z, z = u := ⟨_, rfl⟩
  have hT := hw_11
  have hP : va_P D vwCl ([(mo, .inr (11, [.ref mw, .ref ma, .ref mf, .ref m0, .ref m1, .ref mu, .ref mv, .ref u0, .ref u1, .ref iz, .int th, .ref mb, .int mn, .int mpt, .int mbg, .int mwr, .int mwk, .int mlf, .int men])), (mw, .inl (ct 0, 958, .inl f))] ++ ws_12) H := hP
  have hD : va_D A ([(mo, .inr (11, [.ref mw, .ref ma, .ref mf, .ref m0, .ref m1, .ref mu, .ref mv, .ref u0, .ref u1, .ref iz, .int th, .ref mb, .int mn, .int mpt, .int mbg, .int mwr, .int mwk, .int mlf, .int men])), (mw, .inl (ct 0, 958, .inl f))] ++ ws_12) := hD
  refine lv_aload_n hx hb dX11_restAt_60 rfl (lv_at hl 5 rfl) ?_
  refine lv_iload_n hx hb dX11_restAt_61 rfl (lv_at hl 4 rfl) ?_
  refine lv_iload hx hb dX11_restAt_62 (lv_at hl 0 rfl) ?_
  refine ty_ki (wr := []) (wc := ([(mo, .inr (11, [.ref mw, .ref ma, .ref mf, .ref m0, .ref m1, .ref mu, .ref mv, .ref u0, .ref u1, .ref iz, .int th, .ref mb, .int mn, .int mpt, .int mbg, .int mwr, .int mwk, .int mlf, .int men])), (mw, .inl (ct 0, 958, .inl f))] ++ ws_12)) (va_runV (As := [.int (rf_of f p1 11), .int k_9]) (rest := [.int r_10]) ⟨hx, hb, hml, hown, hts⟩ (m_X11_volts l D ct S ws_12 mo mw ma mf m0 m1 mu mv u0 u1 iz mb th mn mpt mbg mwr mwk mlf men f G cx (rf_of f p1 11) k_9 _ hT h_mu h_mv h_u0 h_u1 hR (rf_stat hR hc).1.1 (rf_rk0 hk_8)) (cm_V 2 hts kc_X11_volts ki_RX11 kl_RX11_215 kv_X11_volts kx_X11_volts kd_X11_volts ⟨Nat.le_of_ble_eq_true rfl, Nat.le_of_ble_eq_true rfl⟩) (ty_preE (wr := []) (wc := ([(mo, .inr (11, [.ref mw, .ref ma, .ref mf, .ref m0, .ref m1, .ref mu, .ref mv, .ref u0, .ref u1, .ref iz, .int th, .ref mb, .int mn, .int mpt, .int mbg, .int mwr, .int mwk, .int mlf, .int men])), (mw, .inl (ct 0, 958, .inl f))] ++ ws_12)) (ci := 11) (q0 := 0) hP hK hD hS hA hX rfl rfl) rfl rfl hl.1 rfl (lv_room (Nat.le_of_ble_eq_true rfl)) dX11_restAt_64 ⟨Nat.le_of_ble_eq_true rfl, Nat.le_of_ble_eq_true rfl⟩) hP hD hS hA (fun r_13 u H locs hw_14 hP hD hS => ?_)
  obtain ⟨ws_15, rfl⟩ : ∃ z, z = u := ⟨_, rfl⟩
  have hT := hw_14
  have hP : va_P D vwCl ([(mo, .inr (11, [.ref mw, .ref ma, .ref mf, .ref m0, .ref m1, .ref mu, .ref mv, .ref u0, .ref u1, .ref iz, .int th, .ref mb, .int mn, .int mpt, .int mbg, .int mwr, .int mwk, .int mlf, .int men])), (mw, .inl (ct 0, 958, .inl f))] ++ ws_15) H := hP
  have hD : va_D A ([(mo, .inr (11, [.ref mw, .ref ma, .ref mf, .ref m0, .ref m1, .ref mu, .ref mv, .ref u0, .ref u1, .ref iz, .int th, .ref mb, .int mn, .int mpt, .int mbg, .int mwr, .int mwk, .int mlf, .int men])), (mw, .inl (ct 0, 958, .inl f))] ++ ws_15) := hD
  refine lv_isub hx hb dX11_restAt_67 ?_
  refine lv_topi (fun x_16 _ => ?_)
  refine lv_i2l hx hb dX11_restAt_68 rfl ?_
  refine lv_topl (fun x_17 _ => ?_)
  refine lv_lstore (lv' := [(10, .long x_17), (9, .int k_9), (7, .long (p2.toInt64 * (((f (20 + 19 * (rf_of f p1 11).toInt.toNat + 7)) - 1).toInt64))), (5, .long ((rf_of f p1 7).toInt64)), (4, .int ((f (20 + 19 * (rf_of f p1 11).toInt.toNat + 7)) - 1)), (3, .int (rf_of f p1 11)), (0, .ref mo), (1, .int p1), (2, .int p2)]) hx hb dX11_restAt_69 hl (by decide) rfl (fun ls hl => ?_)
  refine lv_aload_n hx hb dX11_restAt_71 rfl (lv_at hl 6 rfl) ?_
  refine lv_iload_n hx hb dX11_restAt_72 rfl (lv_at hl 5 rfl) ?_
  refine lv_iload hx hb dX11_restAt_73 (lv_at hl 1 rfl) ?_
  refine ty_ki (wr := []) (wc := ([(mo, .inr (11, [.ref mw, .ref ma, .ref mf, .ref m0, .ref m1, .ref mu, .ref mv, .ref u0, .ref u1, .ref iz, .int th, .ref mb, .int mn, .int mpt, .int mbg, .int mwr, .int mwk, .int mlf, .int men])), (mw, .inl (ct 0, 958, .inl f))] ++ ws_15)) (va_runV (As := [.int (rf_of f p1 11), .int k_9]) (rest := []) ⟨hx, hb, hml, hown, hts⟩ (m_X11_volts l D ct S ws_15 mo mw ma mf m0 m1 mu mv u0 u1 iz mb th mn mpt mbg mwr mwk mlf men f G cx (rf_of f p1 11) k_9 _ hT h_mu h_mv h_u0 h_u1 hR (rf_stat hR hc).1.1 (rf_rk0 hk_8)) (cm_V 2 hts kc_X11_volts ki_RX11 kl_RX11_215 kv_X11_volts kx_X11_volts kd_X11_volts ⟨Nat.le_of_ble_eq_true rfl, Nat.le_of_ble_eq_true rfl⟩) (ty_preE (wr := []) (wc := ([(mo, .inr (11, [.ref mw, .ref ma, .ref mf, .ref m0, .ref m1, .ref mu, .ref mv, .ref u0, .ref u1, .ref iz, .int th, .ref mb, .int mn, .int mpt, .int mbg, .int mwr, .int mwk, .int mlf, .int men])), (mw, .inl (ct 0, 958, .inl f))] ++ ws_15)) (ci := 11) (q0 := 0) hP hK hD hS hA hX rfl rfl) rfl rfl hl.1 rfl (lv_room (Nat.le_of_ble_eq_true rfl)) dX11_restAt_75 ⟨Nat.le_of_ble_eq_true rfl, Nat.le_of_ble_eq_true rfl⟩) hP hD hS hA (fun r_18 u H locs hw_19 hP hD hS => ?_)
  obtain ⟨ws_20, rfl⟩ : ∃ z, z = u := ⟨_, rfl⟩
  have hT := hw_19
  have hP : va_P D vwCl ([(mo, .inr (11, [.ref mw, .ref ma, .ref mf, .ref m0, .ref m1, .ref mu, .ref mv, .ref u0, .ref u1, .ref iz, .int th, .ref mb, .int mn, .int mpt, .int mbg, .int mwr, .int mwk, .int mlf, .int men])), (mw, .inl (ct 0, 958, .inl f))] ++ ws_20) H := hP
  have hD : va_D A ([(mo, .inr (11, [.ref mw, .ref ma, .ref mf, .ref m0, .ref m1, .ref mu, .ref mv, .ref u0, .ref u1, .ref iz, .int th, .ref mb, .int mn, .int mpt, .int mbg, .int mwr, .int mwk, .int mlf, .int men])), (mw, .inl (ct 0, 958, .inl f))] ++ ws_20) := hD
  refine lv_lload hx hb dX11_restAt_78 (lv_at hl 0 rfl) ?_
  refine lv_lload hx hb dX11_restAt_80 (lv_at hl 2 rfl) ?_
  refine lv_iload hx hb dX11_restAt_82 (lv_at hl 1 rfl) ?_
  refine lv_i2l hx hb dX11_restAt_84 rfl ?_
  refine lv_topl (fun x_21 _ => ?_)
  refine lv_lload hx hb dX11_restAt_85 (lv_at hl 3 rfl) ?_
  refine lv_lmul hx hb dX11_restAt_87 ?_
  refine lv_topl (fun x_22 _ => ?_)
  refine lv_lsub hx hb dX11_restAt_88 ?_
  refine lv_topl (fun x_23 _ => ?_)
  refine lv_lmul hx hb dX11_restAt_89 ?_
  refine lv_topl (fun x_24 _ => ?_)
  refine lv_lload hx hb dX11_restAt_90 (lv_at hl 3 rfl) ?_
  refine lv_ldiv hx hb dX11_restAt_92 (rf_nzl (by have := rf_full hR hc; omega)) ?_
  refine lv_topl (fun x_25 _ => ?_)
  refine lv_l2i hx hb dX11_restAt_93 rfl ?_
  refine lv_iadd hx hb dX11_restAt_94 ?_
  refine lv_topi (fun x_26 _ => ?_)
  exact W.iret (v := x_26) hx hb hr (fun t ht hW => ⟨⟨x_26, ws_20, rfl, hT, by rw [ht]; exact hP, by rw [hAe]; exact hD⟩, hS.F ht⟩) hS.2.2 dX11_restAt_95
theorem dX11_filled_0 : decode cX11_filled 0 = .ok (.ldc2_w 303, 3) := by decide +kernel
theorem dX11_filled_3 : decode cX11_filled 3 = .ok (.aload_n 0, 1) := by decide +kernel
theorem dX11_filled_4 : decode cX11_filled 4 = .ok (.iload_n 1, 1) := by decide +kernel
theorem dX11_filled_5 : decode cX11_filled 5 = .ok (.bipush 6, 2) := by decide +kernel
theorem dX11_filled_7 : decode cX11_filled 7 = .ok (.invokevirtual 209, 3) := by decide +kernel
theorem dX11_filled_10 : decode cX11_filled 10 = .ok (.i2l, 1) := by decide +kernel
theorem dX11_filled_11 : decode cX11_filled 11 = .ok (.lmul, 1) := by decide +kernel
theorem dX11_filled_12 : decode cX11_filled 12 = .ok (.aload_n 0, 1) := by decide +kernel
theorem dX11_filled_13 : decode cX11_filled 13 = .ok (.iload_n 1, 1) := by decide +kernel
theorem dX11_filled_14 : decode cX11_filled 14 = .ok (.bipush 7, 2) := by decide +kernel
theorem dX11_filled_16 : decode cX11_filled 16 = .ok (.invokevirtual 209, 3) := by decide +kernel
theorem dX11_filled_19 : decode cX11_filled 19 = .ok (.i2l, 1) := by decide +kernel
theorem dX11_filled_20 : decode cX11_filled 20 = .ok (.ldiv, 1) := by decide +kernel
theorem dX11_filled_21 : decode cX11_filled 21 = .ok (.l2i, 1) := by decide +kernel
theorem dX11_filled_22 : decode cX11_filled 22 = .ok (.ireturn, 1) := by decide +kernel
set_option maxRecDepth 100000 in
set_option maxHeartbeats 4000000 in
theorem m_X11_filled (l : Launch) (D : va_G) (ct : Nat → ClassId) (S : ty_S) (ws : va_W) (mo : Nat) (mw : Nat) (ma : Nat) (mf : Nat) (m0 : Nat) (m1 : Nat) (mu : Nat) (mv : Nat) (u0 : Nat) (u1 : Nat) (iz : Nat) (mb : Nat) (th : Int32) (mn : Int32) (mpt : Int32) (mbg : Int32) (mwr : Int32) (mwk : Int32) (mlf : Int32) (men : Int32) (f : Nat → Int32) (G : Nat → Int32) (cx : Int) (p1 : Int32) (sz : Nat) (hT : ty_W ct S ws) (h_mu : S mu = some (.inr (1, 42))) (h_mv : S mv = some (.inr (1, 42))) (h_u0 : S u0 = some (.inr (1, 42))) (h_u1 : S u1 = some (.inr (1, 42))) (hR : rf_R G cx f) (hc : 0 ≤ p1.toInt ∧ p1.toInt < (G 9).toInt) : Met l yX11_filled (ws_ yX11_filled cX11_filled 2 (some .int)) ({ frames := 1, cells := 0, slots := 0, locals := 22 } : Room) (va_Pc [.ref mo, .int p1] (cmP D ct sz ([(mo, .inr (11, [.ref mw, .ref ma, .ref mf, .ref m0, .ref m1, .ref mu, .ref mv, .ref u0, .ref u1, .ref iz, .int th, .ref mb, .int mn, .int mpt, .int mbg, .int mwr, .int mwk, .int mlf, .int men])), (mw, .inl (ct 0, 958, .inl f))] ++ ws))) (va_Qi (fun (r : Int32) (u9 : va_W) => ty_W ct S u9 ∧ 0 ≤ r.toInt) (cmB D ([(mo, .inr (11, [.ref mw, .ref ma, .ref mf, .ref m0, .ref m1, .ref mu, .ref mv, .ref u0, .ref u1, .ref iz, .int th, .ref mb, .int mn, .int mpt, .int mbg, .int mwr, .int mwk, .int mlf, .int men])), (mw, .inl (ct 0, 958, .inl f))] ++ ws) sz (fun (u9 : va_W) => ([(mo, .inr (11, [.ref mw, .ref ma, .ref mf, .ref m0, .ref m1, .ref mu, .ref mv, .ref u0, .ref u1, .ref iz, .int th, .ref mb, .int mn, .int mpt, .int mbg, .int mwr, .int mwk, .int mlf, .int men])), (mw, .inl (ct 0, 958, .inl f))] ++ u9))) (va_A ([(mo, .inr (11, [.ref mw, .ref ma, .ref mf, .ref m0, .ref m1, .ref mu, .ref mv, .ref u0, .ref u1, .ref iz, .int th, .ref mb, .int mn, .int mpt, .int mbg, .int mwr, .int mwk, .int mlf, .int men])), (mw, .inl (ct 0, 958, .inl f))] ++ ws) sz)) 0 0 (va_A ([(mo, .inr (11, [.ref mw, .ref ma, .ref mf, .ref m0, .ref m1, .ref mu, .ref mv, .ref u0, .ref u1, .ref iz, .int th, .ref mb, .int mn, .int mpt, .int mbg, .int mwr, .int mwk, .int mlf, .int men])), (mw, .inl (ct 0, 958, .inl f))] ++ ws) sz) := by
  refine Met.ofW (cc := cX11_filled) (maxL := 2) (ret := (some .int)) (by decide) rfl ?_
  intro p e s m args below meth c s₁ B hml hv
  obtain ⟨rfl, hsz, hP, hK, hD0, hX⟩ := hv
  have hx := B.exec
  have hb := B.bytes
  have hr := B.returns
  have hts := ws_all (atoms_spec (ws := ws_ yX11_filled cX11_filled 2 (some .int)) B.pre)
  have hown : s.vm.findClass RX11 = some m.cls := findClass_of_methodNamed B.named
  have hlocks := B.notSynchronized
  subst hsz
  have hD := hD0.self (sz := s.heap.size)
  generalize hAe : va_A ([(mo, .inr (11, [.ref mw, .ref ma, .ref mf, .ref m0, .ref m1, .ref mu, .ref mv, .ref u0, .ref u1, .ref iz, .int th, .ref mb, .int mn, .int mpt, .int mbg, .int mwr, .int mwk, .int mlf, .int men])), (mw, .inl (ct 0, 958, .inl f))] ++ ws) s.heap.size = A at hD hX ⊢
  have hA : ∀ q : Nat, s.heap.size ≤ q → A q := fun q h => by rw [← hAe]; exact Or.inr h
  have hS : va_S A s.heap s.heap [] := va_S.rf
  have hl := lv_entry ([.ref mo, .int p1]) (n := 2) (Nat.le_of_ble_eq_true rfl)
  rw [lg_entry_eq]
  generalize (lg_sl ([.ref mo, .int p1]) ++ List.replicate (2 - (lg_sl ([.ref mo, .int p1])).length) Slot.unset).toArray = ls at hl ⊢
  have hl : lv_has ls 2 [(0, .ref mo), (1, .int p1)] := hl
  refine lv_ldc2 hx hb hown (hts _ kl_RX11_303) dX11_filled_0 ?_
  refine lv_aload_n hx hb dX11_filled_3 rfl (lv_at hl 0 rfl) ?_
  refine lv_iload_n hx hb dX11_filled_4 rfl (lv_at hl 1 rfl) ?_
  refine lv_bipush (v := 6) hx hb dX11_filled_5 (by decide) ?_
  refine ty_ki (wr := []) (wc := ([(mo, .inr (11, [.ref mw, .ref ma, .ref mf, .ref m0, .ref m1, .ref mu, .ref mv, .ref u0, .ref u1, .ref iz, .int th, .ref mb, .int mn, .int mpt, .int mbg, .int mwr, .int mwk, .int mlf, .int men])), (mw, .inl (ct 0, 958, .inl f))] ++ ws)) (va_runV (As := [.int p1, .int 6]) (rest := [.long 1000]) ⟨hx, hb, hml, hown, hts⟩ (m_of_6 l D ct S ws mo mw ma mf m0 m1 mu mv u0 u1 iz mb th mn mpt mbg mwr mwk mlf men f G cx p1 _ hT h_mu h_mv h_u0 h_u1 hR hc) (cm_V 2 hts kc_X11_of ki_RX11 kl_RX11_209 kv_X11_of kx_X11_of kd_X11_of ⟨Nat.le_of_ble_eq_true rfl, Nat.le_of_ble_eq_true rfl⟩) (ty_preE (wr := []) (wc := ([(mo, .inr (11, [.ref mw, .ref ma, .ref mf, .ref m0, .ref m1, .ref mu, .ref mv, .ref u0, .ref u1, .ref iz, .int th, .ref mb, .int mn, .int mpt, .int mbg, .int mwr, .int mwk, .int mlf, .int men])), (mw, .inl (ct 0, 958, .inl f))] ++ ws)) (ci := 11) (q0 := 0) hP hK hD hS hA hX rfl rfl) rfl rfl hl.1 rfl (lv_room (Nat.le_of_ble_eq_true rfl)) dX11_filled_7 ⟨Nat.le_of_ble_eq_true rfl, Nat.le_of_ble_eq_true rfl⟩) hP hD hS hA (fun r_1 u H locs hw_2 hP hD hS => ?_)
  obtain ⟨ws_3, rfl⟩ : ∃ z, z = u := ⟨_, rfl⟩
  obtain ⟨hT, rfl⟩ := hw_2
  have hP : va_P D vwCl ([(mo, .inr (11, [.ref mw, .ref ma, .ref mf, .ref m0, .ref m1, .ref mu, .ref mv, .ref u0, .ref u1, .ref iz, .int th, .ref mb, .int mn, .int mpt, .int mbg, .int mwr, .int mwk, .int mlf, .int men])), (mw, .inl (ct 0, 958, .inl f))] ++ ws_3) H := hP
  have hD : va_D A ([(mo, .inr (11, [.ref mw, .ref ma, .ref mf, .ref m0, .ref m1, .ref mu, .ref mv, .ref u0, .ref u1, .ref iz, .int th, .ref mb, .int mn, .int mpt, .int mbg, .int mwr, .int mwk, .int mlf, .int men])), (mw, .inl (ct 0, 958, .inl f))] ++ ws_3) := hD
  refine lv_i2l hx hb dX11_filled_10 rfl ?_
  refine lv_lmul hx hb dX11_filled_11 ?_
  refine lv_aload_n hx hb dX11_filled_12 rfl (lv_at hl 0 rfl) ?_
  refine lv_iload_n hx hb dX11_filled_13 rfl (lv_at hl 1 rfl) ?_
  refine lv_bipush (v := 7) hx hb dX11_filled_14 (by decide) ?_
  refine ty_ki (wr := []) (wc := ([(mo, .inr (11, [.ref mw, .ref ma, .ref mf, .ref m0, .ref m1, .ref mu, .ref mv, .ref u0, .ref u1, .ref iz, .int th, .ref mb, .int mn, .int mpt, .int mbg, .int mwr, .int mwk, .int mlf, .int men])), (mw, .inl (ct 0, 958, .inl f))] ++ ws_3)) (va_runV (As := [.int p1, .int 7]) (rest := [.long (1000 * ((rf_of f p1 6).toInt64))]) ⟨hx, hb, hml, hown, hts⟩ (m_of_7 l D ct S ws_3 mo mw ma mf m0 m1 mu mv u0 u1 iz mb th mn mpt mbg mwr mwk mlf men f G cx p1 _ hT h_mu h_mv h_u0 h_u1 hR hc) (cm_V 2 hts kc_X11_of ki_RX11 kl_RX11_209 kv_X11_of kx_X11_of kd_X11_of ⟨Nat.le_of_ble_eq_true rfl, Nat.le_of_ble_eq_true rfl⟩) (ty_preE (wr := []) (wc := ([(mo, .inr (11, [.ref mw, .ref ma, .ref mf, .ref m0, .ref m1, .ref mu, .ref mv, .ref u0, .ref u1, .ref iz, .int th, .ref mb, .int mn, .int mpt, .int mbg, .int mwr, .int mwk, .int mlf, .int men])), (mw, .inl (ct 0, 958, .inl f))] ++ ws_3)) (ci := 11) (q0 := 0) hP hK hD hS hA hX rfl rfl) rfl rfl hl.1 rfl (lv_room (Nat.le_of_ble_eq_true rfl)) dX11_filled_16 ⟨Nat.le_of_ble_eq_true rfl, Nat.le_of_ble_eq_true rfl⟩) hP hD hS hA (fun r_4 u H locs hw_5 hP hD hS => ?_)
  obtain ⟨ws_6, rfl⟩ : ∃ z, z = u := ⟨_, rfl⟩
  obtain ⟨hT, rfl⟩ := hw_5
  have hP : va_P D vwCl ([(mo, .inr (11, [.ref mw, .ref ma, .ref mf, .ref m0, .ref m1, .ref mu, .ref mv, .ref u0, .ref u1, .ref iz, .int th, .ref mb, .int mn, .int mpt, .int mbg, .int mwr, .int mwk, .int mlf, .int men])), (mw, .inl (ct 0, 958, .inl f))] ++ ws_6) H := hP
  have hD : va_D A ([(mo, .inr (11, [.ref mw, .ref ma, .ref mf, .ref m0, .ref m1, .ref mu, .ref mv, .ref u0, .ref u1, .ref iz, .int th, .ref mb, .int mn, .int mpt, .int mbg, .int mwr, .int mwk, .int mlf, .int men])), (mw, .inl (ct 0, 958, .inl f))] ++ ws_6) := hD
  refine lv_i2l hx hb dX11_filled_19 rfl ?_
  refine lv_ldiv hx hb dX11_filled_20 (rf_nzl (by have := rf_full hR hc; omega)) ?_
  refine lv_l2i hx hb dX11_filled_21 rfl ?_
  exact W.iret (v := ((1000 * ((rf_of f p1 6).toInt64)) / ((rf_of f p1 7).toInt64)).toInt32) hx hb hr (fun t ht hW => ⟨⟨((1000 * ((rf_of f p1 6).toInt64)) / ((rf_of f p1 7).toInt64)).toInt32, ws_6, rfl, ⟨hT, (rf_fl (by have := rf_qp hR hc; omega) (rf_full hR hc))⟩, by rw [ht]; exact hP, by rw [hAe]; exact hD⟩, hS.F ht⟩) hS.2.2 dX11_filled_22
theorem dX11_share_0 : decode cX11_share 0 = .ok (.ldc2_w 303, 3) := by decide +kernel
theorem dX11_share_3 : decode cX11_share 3 = .ok (.aload_n 0, 1) := by decide +kernel
theorem dX11_share_4 : decode cX11_share 4 = .ok (.iload_n 1, 1) := by decide +kernel
theorem dX11_share_5 : decode cX11_share 5 = .ok (.bipush 7, 2) := by decide +kernel
theorem dX11_share_7 : decode cX11_share 7 = .ok (.invokevirtual 209, 3) := by decide +kernel
theorem dX11_share_10 : decode cX11_share 10 = .ok (.i2l, 1) := by decide +kernel
theorem dX11_share_11 : decode cX11_share 11 = .ok (.lmul, 1) := by decide +kernel
theorem dX11_share_12 : decode cX11_share 12 = .ok (.aload_n 0, 1) := by decide +kernel
theorem dX11_share_13 : decode cX11_share 13 = .ok (.iload_n 1, 1) := by decide +kernel
theorem dX11_share_14 : decode cX11_share 14 = .ok (.bipush 12, 2) := by decide +kernel
theorem dX11_share_16 : decode cX11_share 16 = .ok (.invokevirtual 209, 3) := by decide +kernel
theorem dX11_share_19 : decode cX11_share 19 = .ok (.i2l, 1) := by decide +kernel
theorem dX11_share_20 : decode cX11_share 20 = .ok (.ldiv, 1) := by decide +kernel
theorem dX11_share_21 : decode cX11_share 21 = .ok (.l2i, 1) := by decide +kernel
theorem dX11_share_22 : decode cX11_share 22 = .ok (.ireturn, 1) := by decide +kernel
set_option maxRecDepth 100000 in
set_option maxHeartbeats 4000000 in
theorem m_X11_share (l : Launch) (D : va_G) (ct : Nat → ClassId) (S : ty_S) (ws : va_W) (mo : Nat) (mw : Nat) (ma : Nat) (mf : Nat) (m0 : Nat) (m1 : Nat) (mu : Nat) (mv : Nat) (u0 : Nat) (u1 : Nat) (iz : Nat) (mb : Nat) (th : Int32) (mn : Int32) (mpt : Int32) (mbg : Int32) (mwr : Int32) (mwk : Int32) (mlf : Int32) (men : Int32) (f : Nat → Int32) (G : Nat → Int32) (cx : Int) (p1 : Int32) (sz : Nat) (hT : ty_W ct S ws) (h_mu : S mu = some (.inr (1, 42))) (h_mv : S mv = some (.inr (1, 42))) (h_u0 : S u0 = some (.inr (1, 42))) (h_u1 : S u1 = some (.inr (1, 42))) (hR : rf_R G cx f) (hc : 0 ≤ p1.toInt ∧ p1.toInt < (G 9).toInt) : Met l yX11_share (ws_ yX11_share cX11_share 2 (some .int)) ({ frames := 1, cells := 0, slots := 0, locals := 22 } : Room) (va_Pc [.ref mo, .int p1] (cmP D ct sz ([(mo, .inr (11, [.ref mw, .ref ma, .ref mf, .ref m0, .ref m1, .ref mu, .ref mv, .ref u0, .ref u1, .ref iz, .int th, .ref mb, .int mn, .int mpt, .int mbg, .int mwr, .int mwk, .int mlf, .int men])), (mw, .inl (ct 0, 958, .inl f))] ++ ws))) (va_Qi (fun (r : Int32) (u9 : va_W) => ty_W ct S u9) (cmB D ([(mo, .inr (11, [.ref mw, .ref ma, .ref mf, .ref m0, .ref m1, .ref mu, .ref mv, .ref u0, .ref u1, .ref iz, .int th, .ref mb, .int mn, .int mpt, .int mbg, .int mwr, .int mwk, .int mlf, .int men])), (mw, .inl (ct 0, 958, .inl f))] ++ ws) sz (fun (u9 : va_W) => ([(mo, .inr (11, [.ref mw, .ref ma, .ref mf, .ref m0, .ref m1, .ref mu, .ref mv, .ref u0, .ref u1, .ref iz, .int th, .ref mb, .int mn, .int mpt, .int mbg, .int mwr, .int mwk, .int mlf, .int men])), (mw, .inl (ct 0, 958, .inl f))] ++ u9))) (va_A ([(mo, .inr (11, [.ref mw, .ref ma, .ref mf, .ref m0, .ref m1, .ref mu, .ref mv, .ref u0, .ref u1, .ref iz, .int th, .ref mb, .int mn, .int mpt, .int mbg, .int mwr, .int mwk, .int mlf, .int men])), (mw, .inl (ct 0, 958, .inl f))] ++ ws) sz)) 0 0 (va_A ([(mo, .inr (11, [.ref mw, .ref ma, .ref mf, .ref m0, .ref m1, .ref mu, .ref mv, .ref u0, .ref u1, .ref iz, .int th, .ref mb, .int mn, .int mpt, .int mbg, .int mwr, .int mwk, .int mlf, .int men])), (mw, .inl (ct 0, 958, .inl f))] ++ ws) sz) := by
  refine Met.ofW (cc := cX11_share) (maxL := 2) (ret := (some .int)) (by decide) rfl ?_
  intro p e s m args below meth c s₁ B hml hv
  obtain ⟨rfl, hsz, hP, hK, hD0, hX⟩ := hv
  have hx := B.exec
  have hb := B.bytes
  have hr := B.returns
  have hts := ws_all (atoms_spec (ws := ws_ yX11_share cX11_share 2 (some .int)) B.pre)
  have hown : s.vm.findClass RX11 = some m.cls := findClass_of_methodNamed B.named
  have hlocks := B.notSynchronized
  subst hsz
  have hD := hD0.self (sz := s.heap.size)
  generalize hAe : va_A ([(mo, .inr (11, [.ref mw, .ref ma, .ref mf, .ref m0, .ref m1, .ref mu, .ref mv, .ref u0, .ref u1, .ref iz, .int th, .ref mb, .int mn, .int mpt, .int mbg, .int mwr, .int mwk, .int mlf, .int men])), (mw, .inl (ct 0, 958, .inl f))] ++ ws) s.heap.size = A at hD hX ⊢
  have hA : ∀ q : Nat, s.heap.size ≤ q → A q := fun q h => by rw [← hAe]; exact Or.inr h
  have hS : va_S A s.heap s.heap [] := va_S.rf
  have hl := lv_entry ([.ref mo, .int p1]) (n := 2) (Nat.le_of_ble_eq_true rfl)
  rw [lg_entry_eq]
  generalize (lg_sl ([.ref mo, .int p1]) ++ List.replicate (2 - (lg_sl ([.ref mo, .int p1])).length) Slot.unset).toArray = ls at hl ⊢
  have hl : lv_has ls 2 [(0, .ref mo), (1, .int p1)] := hl
  refine lv_ldc2 hx hb hown (hts _ kl_RX11_303) dX11_share_0 ?_
  refine lv_aload_n hx hb dX11_share_3 rfl (lv_at hl 0 rfl) ?_
  refine lv_iload_n hx hb dX11_share_4 rfl (lv_at hl 1 rfl) ?_
  refine lv_bipush (v := 7) hx hb dX11_share_5 (by decide) ?_
  refine ty_ki (wr := []) (wc := ([(mo, .inr (11, [.ref mw, .ref ma, .ref mf, .ref m0, .ref m1, .ref mu, .ref mv, .ref u0, .ref u1, .ref iz, .int th, .ref mb, .int mn, .int mpt, .int mbg, .int mwr, .int mwk, .int mlf, .int men])), (mw, .inl (ct 0, 958, .inl f))] ++ ws)) (va_runV (As := [.int p1, .int 7]) (rest := [.long 1000]) ⟨hx, hb, hml, hown, hts⟩ (m_of_7 l D ct S ws mo mw ma mf m0 m1 mu mv u0 u1 iz mb th mn mpt mbg mwr mwk mlf men f G cx p1 _ hT h_mu h_mv h_u0 h_u1 hR hc) (cm_V 2 hts kc_X11_of ki_RX11 kl_RX11_209 kv_X11_of kx_X11_of kd_X11_of ⟨Nat.le_of_ble_eq_true rfl, Nat.le_of_ble_eq_true rfl⟩) (ty_preE (wr := []) (wc := ([(mo, .inr (11, [.ref mw, .ref ma, .ref mf, .ref m0, .ref m1, .ref mu, .ref mv, .ref u0, .ref u1, .ref iz, .int th, .ref mb, .int mn, .int mpt, .int mbg, .int mwr, .int mwk, .int mlf, .int men])), (mw, .inl (ct 0, 958, .inl f))] ++ ws)) (ci := 11) (q0 := 0) hP hK hD hS hA hX rfl rfl) rfl rfl hl.1 rfl (lv_room (Nat.le_of_ble_eq_true rfl)) dX11_share_7 ⟨Nat.le_of_ble_eq_true rfl, Nat.le_of_ble_eq_true rfl⟩) hP hD hS hA (fun r_1 u H locs hw_2 hP hD hS => ?_)
  obtain ⟨ws_3, rfl⟩ : ∃ z, z = u := ⟨_, rfl⟩
  obtain ⟨hT, rfl⟩ := hw_2
  have hP : va_P D vwCl ([(mo, .inr (11, [.ref mw, .ref ma, .ref mf, .ref m0, .ref m1, .ref mu, .ref mv, .ref u0, .ref u1, .ref iz, .int th, .ref mb, .int mn, .int mpt, .int mbg, .int mwr, .int mwk, .int mlf, .int men])), (mw, .inl (ct 0, 958, .inl f))] ++ ws_3) H := hP
  have hD : va_D A ([(mo, .inr (11, [.ref mw, .ref ma, .ref mf, .ref m0, .ref m1, .ref mu, .ref mv, .ref u0, .ref u1, .ref iz, .int th, .ref mb, .int mn, .int mpt, .int mbg, .int mwr, .int mwk, .int mlf, .int men])), (mw, .inl (ct 0, 958, .inl f))] ++ ws_3) := hD
  refine lv_i2l hx hb dX11_share_10 rfl ?_
  refine lv_topl (fun x_4 _ => ?_)
  refine lv_lmul hx hb dX11_share_11 ?_
  refine lv_topl (fun x_5 _ => ?_)
  refine lv_aload_n hx hb dX11_share_12 rfl (lv_at hl 0 rfl) ?_
  refine lv_iload_n hx hb dX11_share_13 rfl (lv_at hl 1 rfl) ?_
  refine lv_bipush (v := 12) hx hb dX11_share_14 (by decide) ?_
  refine ty_ki (wr := []) (wc := ([(mo, .inr (11, [.ref mw, .ref ma, .ref mf, .ref m0, .ref m1, .ref mu, .ref mv, .ref u0, .ref u1, .ref iz, .int th, .ref mb, .int mn, .int mpt, .int mbg, .int mwr, .int mwk, .int mlf, .int men])), (mw, .inl (ct 0, 958, .inl f))] ++ ws_3)) (va_runV (As := [.int p1, .int 12]) (rest := [.long x_5]) ⟨hx, hb, hml, hown, hts⟩ (m_of_12 l D ct S ws_3 mo mw ma mf m0 m1 mu mv u0 u1 iz mb th mn mpt mbg mwr mwk mlf men f G cx p1 _ hT h_mu h_mv h_u0 h_u1 hR hc) (cm_V 2 hts kc_X11_of ki_RX11 kl_RX11_209 kv_X11_of kx_X11_of kd_X11_of ⟨Nat.le_of_ble_eq_true rfl, Nat.le_of_ble_eq_true rfl⟩) (ty_preE (wr := []) (wc := ([(mo, .inr (11, [.ref mw, .ref ma, .ref mf, .ref m0, .ref m1, .ref mu, .ref mv, .ref u0, .ref u1, .ref iz, .int th, .ref mb, .int mn, .int mpt, .int mbg, .int mwr, .int mwk, .int mlf, .int men])), (mw, .inl (ct 0, 958, .inl f))] ++ ws_3)) (ci := 11) (q0 := 0) hP hK hD hS hA hX rfl rfl) rfl rfl hl.1 rfl (lv_room (Nat.le_of_ble_eq_true rfl)) dX11_share_16 ⟨Nat.le_of_ble_eq_true rfl, Nat.le_of_ble_eq_true rfl⟩) hP hD hS hA (fun r_6 u H locs hw_7 hP hD hS => ?_)
  obtain ⟨ws_8, rfl⟩ : ∃ z, z = u := ⟨_, rfl⟩
  obtain ⟨hT, rfl⟩ := hw_7
  have hP : va_P D vwCl ([(mo, .inr (11, [.ref mw, .ref ma, .ref mf, .ref m0, .ref m1, .ref mu, .ref mv, .ref u0, .ref u1, .ref iz, .int th, .ref mb, .int mn, .int mpt, .int mbg, .int mwr, .int mwk, .int mlf, .int men])), (mw, .inl (ct 0, 958, .inl f))] ++ ws_8) H := hP
  have hD : va_D A ([(mo, .inr (11, [.ref mw, .ref ma, .ref mf, .ref m0, .ref m1, .ref mu, .ref mv, .ref u0, .ref u1, .ref iz, .int th, .ref mb, .int mn, .int mpt, .int mbg, .int mwr, .int mwk, .int mlf, .int men])), (mw, .inl (ct 0, 958, .inl f))] ++ ws_8) := hD
  refine lv_i2l hx hb dX11_share_19 rfl ?_
  refine lv_ldiv hx hb dX11_share_20 (rf_nzl (by have := rf_qp hR hc; omega)) ?_
  refine lv_topl (fun x_9 _ => ?_)
  refine lv_l2i hx hb dX11_share_21 rfl ?_
  refine lv_topi (fun x_10 _ => ?_)
  exact W.iret (v := x_10) hx hb hr (fun t ht hW => ⟨⟨x_10, ws_8, rfl, hT, by rw [ht]; exact hP, by rw [hAe]; exact hD⟩, hS.F ht⟩) hS.2.2 dX11_share_22
theorem dX11_wantedOf_0 : decode cX11_wantedOf 0 = .ok (.aload_n 0, 1) := by decide +kernel
theorem dX11_wantedOf_1 : decode cX11_wantedOf 1 = .ok (.iload_n 1, 1) := by decide +kernel
theorem dX11_wantedOf_2 : decode cX11_wantedOf 2 = .ok (.iconst 0, 1) := by decide +kernel
theorem dX11_wantedOf_3 : decode cX11_wantedOf 3 = .ok (.invokevirtual 228, 3) := by decide +kernel
theorem dX11_wantedOf_6 : decode cX11_wantedOf 6 = .ok (.istore_n 2, 1) := by decide +kernel
theorem dX11_wantedOf_7 : decode cX11_wantedOf 7 = .ok (.iload_n 2, 1) := by decide +kernel
theorem dX11_wantedOf_8 : decode cX11_wantedOf 8 = .ok (.ifCond .ne 10, 3) := by decide +kernel
theorem dX11_wantedOf_11 : decode cX11_wantedOf 11 = .ok (.aload_n 0, 1) := by decide +kernel
theorem dX11_wantedOf_12 : decode cX11_wantedOf 12 = .ok (.iload_n 1, 1) := by decide +kernel
theorem dX11_wantedOf_13 : decode cX11_wantedOf 13 = .ok (.iconst 1, 1) := by decide +kernel
theorem dX11_wantedOf_14 : decode cX11_wantedOf 14 = .ok (.invokevirtual 228, 3) := by decide +kernel
theorem dX11_wantedOf_17 : decode cX11_wantedOf 17 = .ok (.ireturn, 1) := by decide +kernel
theorem dX11_wantedOf_18 : decode cX11_wantedOf 18 = .ok (.iload_n 2, 1) := by decide +kernel
theorem dX11_wantedOf_19 : decode cX11_wantedOf 19 = .ok (.iconst 3, 1) := by decide +kernel
theorem dX11_wantedOf_20 : decode cX11_wantedOf 20 = .ok (.if_icmp .ne 5, 3) := by decide +kernel
theorem dX11_wantedOf_23 : decode cX11_wantedOf 23 = .ok (.iconst 0, 1) := by decide +kernel
theorem dX11_wantedOf_24 : decode cX11_wantedOf 24 = .ok (.ireturn, 1) := by decide +kernel
theorem dX11_wantedOf_25 : decode cX11_wantedOf 25 = .ok (.iload_n 2, 1) := by decide +kernel
theorem dX11_wantedOf_26 : decode cX11_wantedOf 26 = .ok (.iconst 2, 1) := by decide +kernel
theorem dX11_wantedOf_27 : decode cX11_wantedOf 27 = .ok (.if_icmp .ne 11, 3) := by decide +kernel
theorem dX11_wantedOf_30 : decode cX11_wantedOf 30 = .ok (.aload_n 0, 1) := by decide +kernel
theorem dX11_wantedOf_31 : decode cX11_wantedOf 31 = .ok (.iload_n 1, 1) := by decide +kernel
theorem dX11_wantedOf_32 : decode cX11_wantedOf 32 = .ok (.iconst 1, 1) := by decide +kernel
theorem dX11_wantedOf_33 : decode cX11_wantedOf 33 = .ok (.invokevirtual 228, 3) := by decide +kernel
theorem dX11_wantedOf_36 : decode cX11_wantedOf 36 = .ok (.ineg, 1) := by decide +kernel
theorem dX11_wantedOf_37 : decode cX11_wantedOf 37 = .ok (.ireturn, 1) := by decide +kernel
theorem dX11_wantedOf_38 : decode cX11_wantedOf 38 = .ok (.aload_n 0, 1) := by decide +kernel
theorem dX11_wantedOf_39 : decode cX11_wantedOf 39 = .ok (.iload_n 1, 1) := by decide +kernel
theorem dX11_wantedOf_40 : decode cX11_wantedOf 40 = .ok (.iconst 1, 1) := by decide +kernel
theorem dX11_wantedOf_41 : decode cX11_wantedOf 41 = .ok (.invokevirtual 228, 3) := by decide +kernel
theorem dX11_wantedOf_44 : decode cX11_wantedOf 44 = .ok (.aload_n 0, 1) := by decide +kernel
theorem dX11_wantedOf_45 : decode cX11_wantedOf 45 = .ok (.iload_n 1, 1) := by decide +kernel
theorem dX11_wantedOf_46 : decode cX11_wantedOf 46 = .ok (.aload_n 0, 1) := by decide +kernel
theorem dX11_wantedOf_47 : decode cX11_wantedOf 47 = .ok (.iload_n 1, 1) := by decide +kernel
theorem dX11_wantedOf_48 : decode cX11_wantedOf 48 = .ok (.bipush 6, 2) := by decide +kernel
theorem dX11_wantedOf_50 : decode cX11_wantedOf 50 = .ok (.invokevirtual 209, 3) := by decide +kernel
theorem dX11_wantedOf_53 : decode cX11_wantedOf 53 = .ok (.invokevirtual 231, 3) := by decide +kernel
theorem dX11_wantedOf_56 : decode cX11_wantedOf 56 = .ok (.isub, 1) := by decide +kernel
theorem dX11_wantedOf_57 : decode cX11_wantedOf 57 = .ok (.aload_n 0, 1) := by decide +kernel
theorem dX11_wantedOf_58 : decode cX11_wantedOf 58 = .ok (.iload_n 1, 1) := by decide +kernel
theorem dX11_wantedOf_59 : decode cX11_wantedOf 59 = .ok (.bipush 8, 2) := by decide +kernel
theorem dX11_wantedOf_61 : decode cX11_wantedOf 61 = .ok (.invokevirtual 209, 3) := by decide +kernel
theorem dX11_wantedOf_64 : decode cX11_wantedOf 64 = .ok (.isub, 1) := by decide +kernel
theorem dX11_wantedOf_65 : decode cX11_wantedOf 65 = .ok (.sipush 1000, 3) := by decide +kernel
theorem dX11_wantedOf_68 : decode cX11_wantedOf 68 = .ok (.imul, 1) := by decide +kernel
theorem dX11_wantedOf_69 : decode cX11_wantedOf 69 = .ok (.aload_n 0, 1) := by decide +kernel
theorem dX11_wantedOf_70 : decode cX11_wantedOf 70 = .ok (.iload_n 1, 1) := by decide +kernel
theorem dX11_wantedOf_71 : decode cX11_wantedOf 71 = .ok (.bipush 13, 2) := by decide +kernel
theorem dX11_wantedOf_73 : decode cX11_wantedOf 73 = .ok (.invokevirtual 209, 3) := by decide +kernel
theorem dX11_wantedOf_76 : decode cX11_wantedOf 76 = .ok (.idiv, 1) := by decide +kernel
theorem dX11_wantedOf_77 : decode cX11_wantedOf 77 = .ok (.istore_n 3, 1) := by decide +kernel
theorem dX11_wantedOf_78 : decode cX11_wantedOf 78 = .ok (.iconst 0, 1) := by decide +kernel
theorem dX11_wantedOf_79 : decode cX11_wantedOf 79 = .ok (.sipush 5000, 3) := by decide +kernel
theorem dX11_wantedOf_82 : decode cX11_wantedOf 82 = .ok (.iload_n 3, 1) := by decide +kernel
theorem dX11_wantedOf_83 : decode cX11_wantedOf 83 = .ok (.invokestatic 184, 3) := by decide +kernel
theorem dX11_wantedOf_86 : decode cX11_wantedOf 86 = .ok (.invokestatic 225, 3) := by decide +kernel
theorem dX11_wantedOf_89 : decode cX11_wantedOf 89 = .ok (.ireturn, 1) := by decide +kernel
set_option maxRecDepth 100000 in
set_option maxHeartbeats 4000000 in
theorem m_X11_wantedOf (l : Launch) (D : va_G) (ct : Nat → ClassId) (S : ty_S) (ws : va_W) (mo : Nat) (mw : Nat) (ma : Nat) (mf : Nat) (m0 : Nat) (m1 : Nat) (mu : Nat) (mv : Nat) (u0 : Nat) (u1 : Nat) (iz : Nat) (mb : Nat) (th : Int32) (mn : Int32) (mpt : Int32) (mbg : Int32) (mwr : Int32) (mwk : Int32) (mlf : Int32) (men : Int32) (f : Nat → Int32) (G : Nat → Int32) (cx : Int) (p1 : Int32) (sz : Nat) (hT : ty_W ct S ws) (h_mu : S mu = some (.inr (1, 42))) (h_mv : S mv = some (.inr (1, 42))) (h_u0 : S u0 = some (.inr (1, 42))) (h_u1 : S u1 = some (.inr (1, 42))) (hR : rf_R G cx f) (hc : 0 ≤ p1.toInt ∧ p1.toInt < (G 9).toInt) (ho : rf_on G f p1) : Met l yX11_wantedOf (ws_ yX11_wantedOf cX11_wantedOf 4 (some .int)) ({ frames := 2, cells := 0, slots := 0, locals := 53 } : Room) (va_Pc [.ref mo, .int p1] (cmP D ct sz ([(mo, .inr (11, [.ref mw, .ref ma, .ref mf, .ref m0, .ref m1, .ref mu, .ref mv, .ref u0, .ref u1, .ref iz, .int th, .ref mb, .int mn, .int mpt, .int mbg, .int mwr, .int mwk, .int mlf, .int men])), (mw, .inl (ct 0, 958, .inl f))] ++ ws))) (va_Qi (fun (r : Int32) (u9 : va_W) => ty_W ct S u9 ∧ -5000 ≤ r.toInt ∧ r.toInt ≤ 5000) (cmB D ([(mo, .inr (11, [.ref mw, .ref ma, .ref mf, .ref m0, .ref m1, .ref mu, .ref mv, .ref u0, .ref u1, .ref iz, .int th, .ref mb, .int mn, .int mpt, .int mbg, .int mwr, .int mwk, .int mlf, .int men])), (mw, .inl (ct 0, 958, .inl f))] ++ ws) sz (fun (u9 : va_W) => ([(mo, .inr (11, [.ref mw, .ref ma, .ref mf, .ref m0, .ref m1, .ref mu, .ref mv, .ref u0, .ref u1, .ref iz, .int th, .ref mb, .int mn, .int mpt, .int mbg, .int mwr, .int mwk, .int mlf, .int men])), (mw, .inl (ct 0, 958, .inl f))] ++ u9))) (va_A ([(mo, .inr (11, [.ref mw, .ref ma, .ref mf, .ref m0, .ref m1, .ref mu, .ref mv, .ref u0, .ref u1, .ref iz, .int th, .ref mb, .int mn, .int mpt, .int mbg, .int mwr, .int mwk, .int mlf, .int men])), (mw, .inl (ct 0, 958, .inl f))] ++ ws) sz)) 0 0 (va_A ([(mo, .inr (11, [.ref mw, .ref ma, .ref mf, .ref m0, .ref m1, .ref mu, .ref mv, .ref u0, .ref u1, .ref iz, .int th, .ref mb, .int mn, .int mpt, .int mbg, .int mwr, .int mwk, .int mlf, .int men])), (mw, .inl (ct 0, 958, .inl f))] ++ ws) sz) := by
  refine Met.ofW (cc := cX11_wantedOf) (maxL := 4) (ret := (some .int)) (by decide) rfl ?_
  intro p e s m args below meth c s₁ B hml hv
  obtain ⟨rfl, hsz, hP, hK, hD0, hX⟩ := hv
  have hx := B.exec
  have hb := B.bytes
  have hr := B.returns
  have hts := ws_all (atoms_spec (ws := ws_ yX11_wantedOf cX11_wantedOf 4 (some .int)) B.pre)
  have hown : s.vm.findClass RX11 = some m.cls := findClass_of_methodNamed B.named
  have hlocks := B.notSynchronized
  subst hsz
  have hD := hD0.self (sz := s.heap.size)
  generalize hAe : va_A ([(mo, .inr (11, [.ref mw, .ref ma, .ref mf, .ref m0, .ref m1, .ref mu, .ref mv, .ref u0, .ref u1, .ref iz, .int th, .ref mb, .int mn, .int mpt, .int mbg, .int mwr, .int mwk, .int mlf, .int men])), (mw, .inl (ct 0, 958, .inl f))] ++ ws) s.heap.size = A at hD hX ⊢
  have hA : ∀ q : Nat, s.heap.size ≤ q → A q := fun q h => by rw [← hAe]; exact Or.inr h
  have hS : va_S A s.heap s.heap [] := va_S.rf
  have hl := lv_entry ([.ref mo, .int p1]) (n := 4) (Nat.le_of_ble_eq_true rfl)
  rw [lg_entry_eq]
  generalize (lg_sl ([.ref mo, .int p1]) ++ List.replicate (4 - (lg_sl ([.ref mo, .int p1])).length) Slot.unset).toArray = ls at hl ⊢
  have hl : lv_has ls 4 [(0, .ref mo), (1, .int p1)] := hl
  refine lv_aload_n hx hb dX11_wantedOf_0 rfl (lv_at hl 0 rfl) ?_
  refine lv_iload_n hx hb dX11_wantedOf_1 rfl (lv_at hl 1 rfl) ?_
  refine lv_iconst (v := 0) hx hb dX11_wantedOf_2 (by decide) ?_
  refine ty_ki (wr := []) (wc := ([(mo, .inr (11, [.ref mw, .ref ma, .ref mf, .ref m0, .ref m1, .ref mu, .ref mv, .ref u0, .ref u1, .ref iz, .int th, .ref mb, .int mn, .int mpt, .int mbg, .int mwr, .int mwk, .int mlf, .int men])), (mw, .inl (ct 0, 958, .inl f))] ++ ws)) (va_runV (As := [.int p1, .int 0]) (rest := []) ⟨hx, hb, hml, hown, hts⟩ (m_step_0 l D ct S ws mo mw ma mf m0 m1 mu mv u0 u1 iz mb th mn mpt mbg mwr mwk mlf men f G cx p1 _ hT h_mu h_mv h_u0 h_u1 hR hc ho) (cm_V 2 hts kc_X11_step ki_RX11 kl_RX11_228 kv_X11_step kx_X11_step kd_X11_step ⟨Nat.le_of_ble_eq_true rfl, Nat.le_of_ble_eq_true rfl⟩) (ty_preE (wr := []) (wc := ([(mo, .inr (11, [.ref mw, .ref ma, .ref mf, .ref m0, .ref m1, .ref mu, .ref mv, .ref u0, .ref u1, .ref iz, .int th, .ref mb, .int mn, .int mpt, .int mbg, .int mwr, .int mwk, .int mlf, .int men])), (mw, .inl (ct 0, 958, .inl f))] ++ ws)) (ci := 11) (q0 := 0) hP hK hD hS hA hX rfl rfl) rfl rfl hl.1 rfl (lv_room (Nat.le_of_ble_eq_true rfl)) dX11_wantedOf_3 ⟨Nat.le_of_ble_eq_true rfl, Nat.le_of_ble_eq_true rfl⟩) hP hD hS hA (fun r_1 u H locs hw_2 hP hD hS => ?_)
  obtain ⟨ws_3, rfl⟩ : ∃ z, z = u := ⟨_, rfl⟩
  obtain ⟨hT, rfl⟩ := hw_2
  have hP : va_P D vwCl ([(mo, .inr (11, [.ref mw, .ref ma, .ref mf, .ref m0, .ref m1, .ref mu, .ref mv, .ref u0, .ref u1, .ref iz, .int th, .ref mb, .int mn, .int mpt, .int mbg, .int mwr, .int mwk, .int mlf, .int men])), (mw, .inl (ct 0, 958, .inl f))] ++ ws_3) H := hP
  have hD : va_D A ([(mo, .inr (11, [.ref mw, .ref ma, .ref mf, .ref m0, .ref m1, .ref mu, .ref mv, .ref u0, .ref u1, .ref iz, .int th, .ref mb, .int mn, .int mpt, .int mbg, .int mwr, .int mwk, .int mlf, .int men])), (mw, .inl (ct 0, 958, .inl f))] ++ ws_3) := hD
  refine lv_istore_n (lv' := [(2, .int (rf_st3 f p1 0)), (0, .ref mo), (1, .int p1)]) hx hb dX11_wantedOf_6 rfl hl (by decide) rfl (fun ls hl => ?_)
  refine lv_iload_n hx hb dX11_wantedOf_7 rfl (lv_at hl 0 rfl) ?_
  refine lv_if_ne (tgt := 18) hx hb dX11_wantedOf_8 (by decide) (fun hc_4 => ?_) (fun hc_4 => ?_)
  · refine lv_iload_n hx hb dX11_wantedOf_18 rfl (lv_at hl 0 rfl) ?_
    refine lv_iconst (v := 3) hx hb dX11_wantedOf_19 (by decide) ?_
    refine lv_icmp_ne (tgt := 25) hx hb dX11_wantedOf_20 (by decide) (fun hc_5 => ?_) (fun hc_5 => ?_)
    · refine lv_iload_n hx hb dX11_wantedOf_25 rfl (lv_at hl 0 rfl) ?_
      refine lv_iconst (v := 2) hx hb dX11_wantedOf_26 (by decide) ?_
      refine lv_icmp_ne (tgt := 38) hx hb dX11_wantedOf_27 (by decide) (fun hc_6 => ?_) (fun hc_6 => ?_)
      · refine lv_aload_n hx hb dX11_wantedOf_38 rfl (lv_at hl 1 rfl) ?_
        refine lv_iload_n hx hb dX11_wantedOf_39 rfl (lv_at hl 2 rfl) ?_
        refine lv_iconst (v := 1) hx hb dX11_wantedOf_40 (by decide) ?_
        refine ty_ki (wr := []) (wc := ([(mo, .inr (11, [.ref mw, .ref ma, .ref mf, .ref m0, .ref m1, .ref mu, .ref mv, .ref u0, .ref u1, .ref iz, .int th, .ref mb, .int mn, .int mpt, .int mbg, .int mwr, .int mwk, .int mlf, .int men])), (mw, .inl (ct 0, 958, .inl f))] ++ ws_3)) (va_runV (As := [.int p1, .int 1]) (rest := []) ⟨hx, hb, hml, hown, hts⟩ (m_step_1 l D ct S ws_3 mo mw ma mf m0 m1 mu mv u0 u1 iz mb th mn mpt mbg mwr mwk mlf men f G cx p1 _ hT h_mu h_mv h_u0 h_u1 hR hc ho) (cm_V 2 hts kc_X11_step ki_RX11 kl_RX11_228 kv_X11_step kx_X11_step kd_X11_step ⟨Nat.le_of_ble_eq_true rfl, Nat.le_of_ble_eq_true rfl⟩) (ty_preE (wr := []) (wc := ([(mo, .inr (11, [.ref mw, .ref ma, .ref mf, .ref m0, .ref m1, .ref mu, .ref mv, .ref u0, .ref u1, .ref iz, .int th, .ref mb, .int mn, .int mpt, .int mbg, .int mwr, .int mwk, .int mlf, .int men])), (mw, .inl (ct 0, 958, .inl f))] ++ ws_3)) (ci := 11) (q0 := 0) hP hK hD hS hA hX rfl rfl) rfl rfl hl.1 rfl (lv_room (Nat.le_of_ble_eq_true rfl)) dX11_wantedOf_41 ⟨Nat.le_of_ble_eq_true rfl, Nat.le_of_ble_eq_true rfl⟩) hP hD hS hA (fun r_7 u H locs hw_8 hP hD hS => ?_)
        obtain ⟨ws_9, rfl⟩ : ∃ z, z = u := ⟨_, rfl⟩
        obtain ⟨hT, rfl⟩ := hw_8
        have hP : va_P D vwCl ([(mo, .inr (11, [.ref mw, .ref ma, .ref mf, .ref m0, .ref m1, .ref mu, .ref mv, .ref u0, .ref u1, .ref iz, .int th, .ref mb, .int mn, .int mpt, .int mbg, .int mwr, .int mwk, .int mlf, .int men])), (mw, .inl (ct 0, 958, .inl f))] ++ ws_9) H := hP
        have hD : va_D A ([(mo, .inr (11, [.ref mw, .ref ma, .ref mf, .ref m0, .ref m1, .ref mu, .ref mv, .ref u0, .ref u1, .ref iz, .int th, .ref mb, .int mn, .int mpt, .int mbg, .int mwr, .int mwk, .int mlf, .int men])), (mw, .inl (ct 0, 958, .inl f))] ++ ws_9) := hD
        refine lv_aload_n hx hb dX11_wantedOf_44 rfl (lv_at hl 1 rfl) ?_
        refine lv_iload_n hx hb dX11_wantedOf_45 rfl (lv_at hl 2 rfl) ?_
        refine lv_aload_n hx hb dX11_wantedOf_46 rfl (lv_at hl 1 rfl) ?_
        refine lv_iload_n hx hb dX11_wantedOf_47 rfl (lv_at hl 2 rfl) ?_
        refine lv_bipush (v := 6) hx hb dX11_wantedOf_48 (by decide) ?_
        refine ty_ki (wr := []) (wc := ([(mo, .inr (11, [.ref mw, .ref ma, .ref mf, .ref m0, .ref m1, .ref mu, .ref mv, .ref u0, .ref u1, .ref iz, .int th, .ref mb, .int mn, .int mpt, .int mbg, .int mwr, .int mwk, .int mlf, .int men])), (mw, .inl (ct 0, 958, .inl f))] ++ ws_9)) (va_runV (As := [.int p1, .int 6]) (rest := [.int p1, .ref mo, .int (rf_st3 f p1 1)]) ⟨hx, hb, hml, hown, hts⟩ (m_of_6 l D ct S ws_9 mo mw ma mf m0 m1 mu mv u0 u1 iz mb th mn mpt mbg mwr mwk mlf men f G cx p1 _ hT h_mu h_mv h_u0 h_u1 hR hc) (cm_V 2 hts kc_X11_of ki_RX11 kl_RX11_209 kv_X11_of kx_X11_of kd_X11_of ⟨Nat.le_of_ble_eq_true rfl, Nat.le_of_ble_eq_true rfl⟩) (ty_preE (wr := []) (wc := ([(mo, .inr (11, [.ref mw, .ref ma, .ref mf, .ref m0, .ref m1, .ref mu, .ref mv, .ref u0, .ref u1, .ref iz, .int th, .ref mb, .int mn, .int mpt, .int mbg, .int mwr, .int mwk, .int mlf, .int men])), (mw, .inl (ct 0, 958, .inl f))] ++ ws_9)) (ci := 11) (q0 := 0) hP hK hD hS hA hX rfl rfl) rfl rfl hl.1 rfl (lv_room (Nat.le_of_ble_eq_true rfl)) dX11_wantedOf_50 ⟨Nat.le_of_ble_eq_true rfl, Nat.le_of_ble_eq_true rfl⟩) hP hD hS hA (fun r_10 u H locs hw_11 hP hD hS => ?_)
        obtain ⟨ws_12, rfl⟩ : ∃ z, z = u := ⟨_, rfl⟩
        obtain ⟨hT, rfl⟩ := hw_11
        have hP : va_P D vwCl ([(mo, .inr (11, [.ref mw, .ref ma, .ref mf, .ref m0, .ref m1, .ref mu, .ref mv, .ref u0, .ref u1, .ref iz, .int th, .ref mb, .int mn, .int mpt, .int mbg, .int mwr, .int mwk, .int mlf, .int men])), (mw, .inl (ct 0, 958, .inl f))] ++ ws_12) H := hP
        have hD : va_D A ([(mo, .inr (11, [.ref mw, .ref ma, .ref mf, .ref m0, .ref m1, .ref mu, .ref mv, .ref u0, .ref u1, .ref iz, .int th, .ref mb, .int mn, .int mpt, .int mbg, .int mwr, .int mwk, .int mlf, .int men])), (mw, .inl (ct 0, 958, .inl f))] ++ ws_12) := hD
        refine ty_ki (wr := []) (wc := ([(mo, .inr (11, [.ref mw, .ref ma, .ref mf, .ref m0, .ref m1, .ref mu, .ref mv, .ref u0, .ref u1, .ref iz, .int th, .ref mb, .int mn, .int mpt, .int mbg, .int mwr, .int mwk, .int mlf, .int men])), (mw, .inl (ct 0, 958, .inl f))] ++ ws_12)) (va_runV (As := [.int p1, .int (rf_of f p1 6)]) (rest := [.int (rf_st3 f p1 1)]) ⟨hx, hb, hml, hown, hts⟩ (m_X11_restAt l D ct S ws_12 mo mw ma mf m0 m1 mu mv u0 u1 iz mb th mn mpt mbg mwr mwk mlf men f G cx p1 (rf_of f p1 6) _ hT h_mu h_mv h_u0 h_u1 hR hc (rf_qp hR hc).1.1.1) (cm_V 2 hts kc_X11_restAt ki_RX11 kl_RX11_231 kv_X11_restAt kx_X11_restAt kd_X11_restAt ⟨Nat.le_of_ble_eq_true rfl, Nat.le_of_ble_eq_true rfl⟩) (ty_preE (wr := []) (wc := ([(mo, .inr (11, [.ref mw, .ref ma, .ref mf, .ref m0, .ref m1, .ref mu, .ref mv, .ref u0, .ref u1, .ref iz, .int th, .ref mb, .int mn, .int mpt, .int mbg, .int mwr, .int mwk, .int mlf, .int men])), (mw, .inl (ct 0, 958, .inl f))] ++ ws_12)) (ci := 11) (q0 := 0) hP hK hD hS hA hX rfl rfl) rfl rfl hl.1 rfl (lv_room (Nat.le_of_ble_eq_true rfl)) dX11_wantedOf_53 ⟨Nat.le_of_ble_eq_true rfl, Nat.le_of_ble_eq_true rfl⟩) hP hD hS hA (fun r_13 u H locs hw_14 hP hD hS => ?_)
        obtain ⟨ws_15, rfl⟩ : ∃ z, z = u := ⟨_, rfl⟩
        have hT := hw_14
        have hP : va_P D vwCl ([(mo, .inr (11, [.ref mw, .ref ma, .ref mf, .ref m0, .ref m1, .ref mu, .ref mv, .ref u0, .ref u1, .ref iz, .int th, .ref mb, .int mn, .int mpt, .int mbg, .int mwr, .int mwk, .int mlf, .int men])), (mw, .inl (ct 0, 958, .inl f))] ++ ws_15) H := hP
        have hD : va_D A ([(mo, .inr (11, [.ref mw, .ref ma, .ref mf, .ref m0, .ref m1, .ref mu, .ref mv, .ref u0, .ref u1, .ref iz, .int th, .ref mb, .int mn, .int mpt, .int mbg, .int mwr, .int mwk, .int mlf, .int men])), (mw, .inl (ct 0, 958, .inl f))] ++ ws_15) := hD
        refine lv_isub hx hb dX11_wantedOf_56 ?_
        refine lv_topi (fun x_16 _ => ?_)
        refine lv_aload_n hx hb dX11_wantedOf_57 rfl (lv_at hl 1 rfl) ?_
        refine lv_iload_n hx hb dX11_wantedOf_58 rfl (lv_at hl 2 rfl) ?_
        refine lv_bipush (v := 8) hx hb dX11_wantedOf_59 (by decide) ?_
        refine ty_ki (wr := []) (wc := ([(mo, .inr (11, [.ref mw, .ref ma, .ref mf, .ref m0, .ref m1, .ref mu, .ref mv, .ref u0, .ref u1, .ref iz, .int th, .ref mb, .int mn, .int mpt, .int mbg, .int mwr, .int mwk, .int mlf, .int men])), (mw, .inl (ct 0, 958, .inl f))] ++ ws_15)) (va_runV (As := [.int p1, .int 8]) (rest := [.int x_16]) ⟨hx, hb, hml, hown, hts⟩ (m_of_8 l D ct S ws_15 mo mw ma mf m0 m1 mu mv u0 u1 iz mb th mn mpt mbg mwr mwk mlf men f G cx p1 _ hT h_mu h_mv h_u0 h_u1 hR hc) (cm_V 2 hts kc_X11_of ki_RX11 kl_RX11_209 kv_X11_of kx_X11_of kd_X11_of ⟨Nat.le_of_ble_eq_true rfl, Nat.le_of_ble_eq_true rfl⟩) (ty_preE (wr := []) (wc := ([(mo, .inr (11, [.ref mw, .ref ma, .ref mf, .ref m0, .ref m1, .ref mu, .ref mv, .ref u0, .ref u1, .ref iz, .int th, .ref mb, .int mn, .int mpt, .int mbg, .int mwr, .int mwk, .int mlf, .int men])), (mw, .inl (ct 0, 958, .inl f))] ++ ws_15)) (ci := 11) (q0 := 0) hP hK hD hS hA hX rfl rfl) rfl rfl hl.1 rfl (lv_room (Nat.le_of_ble_eq_true rfl)) dX11_wantedOf_61 ⟨Nat.le_of_ble_eq_true rfl, Nat.le_of_ble_eq_true rfl⟩) hP hD hS hA (fun r_17 u H locs hw_18 hP hD hS => ?_)
        obtain ⟨ws_19, rfl⟩ : ∃ z, z = u := ⟨_, rfl⟩
        obtain ⟨hT, rfl⟩ := hw_18
        have hP : va_P D vwCl ([(mo, .inr (11, [.ref mw, .ref ma, .ref mf, .ref m0, .ref m1, .ref mu, .ref mv, .ref u0, .ref u1, .ref iz, .int th, .ref mb, .int mn, .int mpt, .int mbg, .int mwr, .int mwk, .int mlf, .int men])), (mw, .inl (ct 0, 958, .inl f))] ++ ws_19) H := hP
        have hD : va_D A ([(mo, .inr (11, [.ref mw, .ref ma, .ref mf, .ref m0, .ref m1, .ref mu, .ref mv, .ref u0, .ref u1, .ref iz, .int th, .ref mb, .int mn, .int mpt, .int mbg, .int mwr, .int mwk, .int mlf, .int men])), (mw, .inl (ct 0, 958, .inl f))] ++ ws_19) := hD
        refine lv_isub hx hb dX11_wantedOf_64 ?_
        refine lv_topi (fun x_20 _ => ?_)
        refine lv_sipush (v := 1000) hx hb dX11_wantedOf_65 (by decide) ?_
        refine lv_imul hx hb dX11_wantedOf_68 ?_
        refine lv_topi (fun x_21 _ => ?_)
        refine lv_aload_n hx hb dX11_wantedOf_69 rfl (lv_at hl 1 rfl) ?_
        refine lv_iload_n hx hb dX11_wantedOf_70 rfl (lv_at hl 2 rfl) ?_
        refine lv_bipush (v := 13) hx hb dX11_wantedOf_71 (by decide) ?_
        refine ty_ki (wr := []) (wc := ([(mo, .inr (11, [.ref mw, .ref ma, .ref mf, .ref m0, .ref m1, .ref mu, .ref mv, .ref u0, .ref u1, .ref iz, .int th, .ref mb, .int mn, .int mpt, .int mbg, .int mwr, .int mwk, .int mlf, .int men])), (mw, .inl (ct 0, 958, .inl f))] ++ ws_19)) (va_runV (As := [.int p1, .int 13]) (rest := [.int x_21]) ⟨hx, hb, hml, hown, hts⟩ (m_of_13 l D ct S ws_19 mo mw ma mf m0 m1 mu mv u0 u1 iz mb th mn mpt mbg mwr mwk mlf men f G cx p1 _ hT h_mu h_mv h_u0 h_u1 hR hc) (cm_V 2 hts kc_X11_of ki_RX11 kl_RX11_209 kv_X11_of kx_X11_of kd_X11_of ⟨Nat.le_of_ble_eq_true rfl, Nat.le_of_ble_eq_true rfl⟩) (ty_preE (wr := []) (wc := ([(mo, .inr (11, [.ref mw, .ref ma, .ref mf, .ref m0, .ref m1, .ref mu, .ref mv, .ref u0, .ref u1, .ref iz, .int th, .ref mb, .int mn, .int mpt, .int mbg, .int mwr, .int mwk, .int mlf, .int men])), (mw, .inl (ct 0, 958, .inl f))] ++ ws_19)) (ci := 11) (q0 := 0) hP hK hD hS hA hX rfl rfl) rfl rfl hl.1 rfl (lv_room (Nat.le_of_ble_eq_true rfl)) dX11_wantedOf_73 ⟨Nat.le_of_ble_eq_true rfl, Nat.le_of_ble_eq_true rfl⟩) hP hD hS hA (fun r_22 u H locs hw_23 hP hD hS => ?_)
        obtain ⟨ws_24, rfl⟩ : ∃ z, z = u := ⟨_, rfl⟩
        obtain ⟨hT, rfl⟩ := hw_23
        have hP : va_P D vwCl ([(mo, .inr (11, [.ref mw, .ref ma, .ref mf, .ref m0, .ref m1, .ref mu, .ref mv, .ref u0, .ref u1, .ref iz, .int th, .ref mb, .int mn, .int mpt, .int mbg, .int mwr, .int mwk, .int mlf, .int men])), (mw, .inl (ct 0, 958, .inl f))] ++ ws_24) H := hP
        have hD : va_D A ([(mo, .inr (11, [.ref mw, .ref ma, .ref mf, .ref m0, .ref m1, .ref mu, .ref mv, .ref u0, .ref u1, .ref iz, .int th, .ref mb, .int mn, .int mpt, .int mbg, .int mwr, .int mwk, .int mlf, .int men])), (mw, .inl (ct 0, 958, .inl f))] ++ ws_24) := hD
        refine lv_idiv hx hb dX11_wantedOf_76 (rf_nz (rf_stat hR hc).2.1.1) ?_
        refine lv_topi (fun x_25 _ => ?_)
        refine lv_istore_n (lv' := [(3, .int x_25), (2, .int (rf_st3 f p1 0)), (0, .ref mo), (1, .int p1)]) hx hb dX11_wantedOf_77 rfl hl (by decide) rfl (fun ls hl => ?_)
        refine lv_iconst (v := 0) hx hb dX11_wantedOf_78 (by decide) ?_
        refine lv_sipush (v := 5000) hx hb dX11_wantedOf_79 (by decide) ?_
        refine lv_iload_n hx hb dX11_wantedOf_82 rfl (lv_at hl 0 rfl) ?_
        refine va_mmin hx hb (hml.trans hl.1.symm) hown (hts _ kl_RX11_184) (hts _ jm_min_s) (hts _ ki_RJ9) (hts _ jm_min_c) (Nat.le_of_ble_eq_true rfl) (Nat.le_of_ble_eq_true rfl) (Nat.le_of_ble_eq_true rfl) (Nat.le_of_ble_eq_true rfl) dX11_wantedOf_83 ?_
        refine va_mmax hx hb (hml.trans hl.1.symm) hown (hts _ kl_RX11_225) (hts _ jm_max_s) (hts _ ki_RJ9) (hts _ jm_max_c) (Nat.le_of_ble_eq_true rfl) (Nat.le_of_ble_eq_true rfl) (Nat.le_of_ble_eq_true rfl) (Nat.le_of_ble_eq_true rfl) dX11_wantedOf_86 ?_
        exact W.iret (v := (if 0 < (if x_25 < 5000 then x_25 else 5000) then (if x_25 < 5000 then x_25 else 5000) else 0)) hx hb hr (fun t ht hW => ⟨⟨(if 0 < (if x_25 < 5000 then x_25 else 5000) then (if x_25 < 5000 then x_25 else 5000) else 0), ws_24, rfl, ⟨hT, (by have := @rf_mm x_25; omega)⟩, by rw [ht]; exact hP, by rw [hAe]; exact hD⟩, hS.F ht⟩) hS.2.2 dX11_wantedOf_89
      · refine lv_aload_n hx hb dX11_wantedOf_30 rfl (lv_at hl 1 rfl) ?_
        refine lv_iload_n hx hb dX11_wantedOf_31 rfl (lv_at hl 2 rfl) ?_
        refine lv_iconst (v := 1) hx hb dX11_wantedOf_32 (by decide) ?_
        refine ty_ki (wr := []) (wc := ([(mo, .inr (11, [.ref mw, .ref ma, .ref mf, .ref m0, .ref m1, .ref mu, .ref mv, .ref u0, .ref u1, .ref iz, .int th, .ref mb, .int mn, .int mpt, .int mbg, .int mwr, .int mwk, .int mlf, .int men])), (mw, .inl (ct 0, 958, .inl f))] ++ ws_3)) (va_runV (As := [.int p1, .int 1]) (rest := []) ⟨hx, hb, hml, hown, hts⟩ (m_step_1 l D ct S ws_3 mo mw ma mf m0 m1 mu mv u0 u1 iz mb th mn mpt mbg mwr mwk mlf men f G cx p1 _ hT h_mu h_mv h_u0 h_u1 hR hc ho) (cm_V 2 hts kc_X11_step ki_RX11 kl_RX11_228 kv_X11_step kx_X11_step kd_X11_step ⟨Nat.le_of_ble_eq_true rfl, Nat.le_of_ble_eq_true rfl⟩) (ty_preE (wr := []) (wc := ([(mo, .inr (11, [.ref mw, .ref ma, .ref mf, .ref m0, .ref m1, .ref mu, .ref mv, .ref u0, .ref u1, .ref iz, .int th, .ref mb, .int mn, .int mpt, .int mbg, .int mwr, .int mwk, .int mlf, .int men])), (mw, .inl (ct 0, 958, .inl f))] ++ ws_3)) (ci := 11) (q0 := 0) hP hK hD hS hA hX rfl rfl) rfl rfl hl.1 rfl (lv_room (Nat.le_of_ble_eq_true rfl)) dX11_wantedOf_33 ⟨Nat.le_of_ble_eq_true rfl, Nat.le_of_ble_eq_true rfl⟩) hP hD hS hA (fun r_26 u H locs hw_27 hP hD hS => ?_)
        obtain ⟨ws_28, rfl⟩ : ∃ z, z = u := ⟨_, rfl⟩
        obtain ⟨hT, rfl⟩ := hw_27
        have hP : va_P D vwCl ([(mo, .inr (11, [.ref mw, .ref ma, .ref mf, .ref m0, .ref m1, .ref mu, .ref mv, .ref u0, .ref u1, .ref iz, .int th, .ref mb, .int mn, .int mpt, .int mbg, .int mwr, .int mwk, .int mlf, .int men])), (mw, .inl (ct 0, 958, .inl f))] ++ ws_28) H := hP
        have hD : va_D A ([(mo, .inr (11, [.ref mw, .ref ma, .ref mf, .ref m0, .ref m1, .ref mu, .ref mv, .ref u0, .ref u1, .ref iz, .int th, .ref mb, .int mn, .int mpt, .int mbg, .int mwr, .int mwk, .int mlf, .int men])), (mw, .inl (ct 0, 958, .inl f))] ++ ws_28) := hD
        refine lv_ineg hx hb dX11_wantedOf_36 ?_
        exact W.iret (v := (- (rf_st3 f p1 1))) hx hb hr (fun t ht hW => ⟨⟨(- (rf_st3 f p1 1)), ws_28, rfl, ⟨hT, (rf_neg (rf_stb hR ho (by omega)))⟩, by rw [ht]; exact hP, by rw [hAe]; exact hD⟩, hS.F ht⟩) hS.2.2 dX11_wantedOf_37
    · refine lv_iconst (v := 0) hx hb dX11_wantedOf_23 (by decide) ?_
      exact W.iret (v := 0) hx hb hr (fun t ht hW => ⟨⟨0, ws_3, rfl, ⟨hT, (by decide)⟩, by rw [ht]; exact hP, by rw [hAe]; exact hD⟩, hS.F ht⟩) hS.2.2 dX11_wantedOf_24
  · refine lv_aload_n hx hb dX11_wantedOf_11 rfl (lv_at hl 1 rfl) ?_
    refine lv_iload_n hx hb dX11_wantedOf_12 rfl (lv_at hl 2 rfl) ?_
    refine lv_iconst (v := 1) hx hb dX11_wantedOf_13 (by decide) ?_
    refine ty_ki (wr := []) (wc := ([(mo, .inr (11, [.ref mw, .ref ma, .ref mf, .ref m0, .ref m1, .ref mu, .ref mv, .ref u0, .ref u1, .ref iz, .int th, .ref mb, .int mn, .int mpt, .int mbg, .int mwr, .int mwk, .int mlf, .int men])), (mw, .inl (ct 0, 958, .inl f))] ++ ws_3)) (va_runV (As := [.int p1, .int 1]) (rest := []) ⟨hx, hb, hml, hown, hts⟩ (m_step_1 l D ct S ws_3 mo mw ma mf m0 m1 mu mv u0 u1 iz mb th mn mpt mbg mwr mwk mlf men f G cx p1 _ hT h_mu h_mv h_u0 h_u1 hR hc ho) (cm_V 2 hts kc_X11_step ki_RX11 kl_RX11_228 kv_X11_step kx_X11_step kd_X11_step ⟨Nat.le_of_ble_eq_true rfl, Nat.le_of_ble_eq_true rfl⟩) (ty_preE (wr := []) (wc := ([(mo, .inr (11, [.ref mw, .ref ma, .ref mf, .ref m0, .ref m1, .ref mu, .ref mv, .ref u0, .ref u1, .ref iz, .int th, .ref mb, .int mn, .int mpt, .int mbg, .int mwr, .int mwk, .int mlf, .int men])), (mw, .inl (ct 0, 958, .inl f))] ++ ws_3)) (ci := 11) (q0 := 0) hP hK hD hS hA hX rfl rfl) rfl rfl hl.1 rfl (lv_room (Nat.le_of_ble_eq_true rfl)) dX11_wantedOf_14 ⟨Nat.le_of_ble_eq_true rfl, Nat.le_of_ble_eq_true rfl⟩) hP hD hS hA (fun r_29 u H locs hw_30 hP hD hS => ?_)
    obtain ⟨ws_31, rfl⟩ : ∃ z, z = u := ⟨_, rfl⟩
    obtain ⟨hT, rfl⟩ := hw_30
    have hP : va_P D vwCl ([(mo, .inr (11, [.ref mw, .ref ma, .ref mf, .ref m0, .ref m1, .ref mu, .ref mv, .ref u0, .ref u1, .ref iz, .int th, .ref mb, .int mn, .int mpt, .int mbg, .int mwr, .int mwk, .int mlf, .int men])), (mw, .inl (ct 0, 958, .inl f))] ++ ws_31) H := hP
    have hD : va_D A ([(mo, .inr (11, [.ref mw, .ref ma, .ref mf, .ref m0, .ref m1, .ref mu, .ref mv, .ref u0, .ref u1, .ref iz, .int th, .ref mb, .int mn, .int mpt, .int mbg, .int mwr, .int mwk, .int mlf, .int men])), (mw, .inl (ct 0, 958, .inl f))] ++ ws_31) := hD
    exact W.iret (v := (rf_st3 f p1 1)) hx hb hr (fun t ht hW => ⟨⟨(rf_st3 f p1 1), ws_31, rfl, ⟨hT, (by have := rf_stb hR ho (w := 1) (by omega); omega)⟩, by rw [ht]; exact hP, by rw [hAe]; exact hD⟩, hS.F ht⟩) hS.2.2 dX11_wantedOf_17
theorem dX11_currentOf_0 : decode cX11_currentOf 0 = .ok (.aload_n 0, 1) := by decide +kernel
theorem dX11_currentOf_1 : decode cX11_currentOf 1 = .ok (.iload_n 1, 1) := by decide +kernel
theorem dX11_currentOf_2 : decode cX11_currentOf 2 = .ok (.iconst 0, 1) := by decide +kernel
theorem dX11_currentOf_3 : decode cX11_currentOf 3 = .ok (.invokevirtual 209, 3) := by decide +kernel
theorem dX11_currentOf_6 : decode cX11_currentOf 6 = .ok (.iconst 1, 1) := by decide +kernel
theorem dX11_currentOf_7 : decode cX11_currentOf 7 = .ok (.if_icmp .eq 5, 3) := by decide +kernel
theorem dX11_currentOf_10 : decode cX11_currentOf 10 = .ok (.iconst 0, 1) := by decide +kernel
theorem dX11_currentOf_11 : decode cX11_currentOf 11 = .ok (.ireturn, 1) := by decide +kernel
theorem dX11_currentOf_12 : decode cX11_currentOf 12 = .ok (.aload_n 0, 1) := by decide +kernel
theorem dX11_currentOf_13 : decode cX11_currentOf 13 = .ok (.iload_n 1, 1) := by decide +kernel
theorem dX11_currentOf_14 : decode cX11_currentOf 14 = .ok (.invokevirtual 222, 3) := by decide +kernel
theorem dX11_currentOf_17 : decode cX11_currentOf 17 = .ok (.istore_n 2, 1) := by decide +kernel
theorem dX11_currentOf_18 : decode cX11_currentOf 18 = .ok (.aload_n 0, 1) := by decide +kernel
theorem dX11_currentOf_19 : decode cX11_currentOf 19 = .ok (.getfield 9, 3) := by decide +kernel
theorem dX11_currentOf_22 : decode cX11_currentOf 22 = .ok (.bipush 16, 2) := by decide +kernel
theorem dX11_currentOf_24 : decode cX11_currentOf 24 = .ok (.iaload, 1) := by decide +kernel
theorem dX11_currentOf_25 : decode cX11_currentOf 25 = .ok (.ifCond .eq 58, 3) := by decide +kernel
theorem dX11_currentOf_28 : decode cX11_currentOf 28 = .ok (.aload_n 0, 1) := by decide +kernel
theorem dX11_currentOf_29 : decode cX11_currentOf 29 = .ok (.iload_n 1, 1) := by decide +kernel
theorem dX11_currentOf_30 : decode cX11_currentOf 30 = .ok (.bipush 9, 2) := by decide +kernel
theorem dX11_currentOf_32 : decode cX11_currentOf 32 = .ok (.invokevirtual 209, 3) := by decide +kernel
theorem dX11_currentOf_35 : decode cX11_currentOf 35 = .ok (.aload_n 0, 1) := by decide +kernel
theorem dX11_currentOf_36 : decode cX11_currentOf 36 = .ok (.getfield 9, 3) := by decide +kernel
theorem dX11_currentOf_39 : decode cX11_currentOf 39 = .ok (.bipush 6, 2) := by decide +kernel
theorem dX11_currentOf_41 : decode cX11_currentOf 41 = .ok (.iaload, 1) := by decide +kernel
theorem dX11_currentOf_42 : decode cX11_currentOf 42 = .ok (.aload_n 0, 1) := by decide +kernel
theorem dX11_currentOf_43 : decode cX11_currentOf 43 = .ok (.getfield 9, 3) := by decide +kernel
theorem dX11_currentOf_46 : decode cX11_currentOf 46 = .ok (.bipush 16, 2) := by decide +kernel
theorem dX11_currentOf_48 : decode cX11_currentOf 48 = .ok (.iaload, 1) := by decide +kernel
theorem dX11_currentOf_49 : decode cX11_currentOf 49 = .ok (.isub, 1) := by decide +kernel
theorem dX11_currentOf_50 : decode cX11_currentOf 50 = .ok (.if_icmp .le 33, 3) := by decide +kernel
theorem dX11_currentOf_53 : decode cX11_currentOf 53 = .ok (.iload_n 2, 1) := by decide +kernel
theorem dX11_currentOf_54 : decode cX11_currentOf 54 = .ok (.iconst 0, 1) := by decide +kernel
theorem dX11_currentOf_55 : decode cX11_currentOf 55 = .ok (.aload_n 0, 1) := by decide +kernel
theorem dX11_currentOf_56 : decode cX11_currentOf 56 = .ok (.getfield 9, 3) := by decide +kernel
theorem dX11_currentOf_59 : decode cX11_currentOf 59 = .ok (.bipush 6, 2) := by decide +kernel
theorem dX11_currentOf_61 : decode cX11_currentOf 61 = .ok (.iaload, 1) := by decide +kernel
theorem dX11_currentOf_62 : decode cX11_currentOf 62 = .ok (.aload_n 0, 1) := by decide +kernel
theorem dX11_currentOf_63 : decode cX11_currentOf 63 = .ok (.iload_n 1, 1) := by decide +kernel
theorem dX11_currentOf_64 : decode cX11_currentOf 64 = .ok (.bipush 9, 2) := by decide +kernel
theorem dX11_currentOf_66 : decode cX11_currentOf 66 = .ok (.invokevirtual 209, 3) := by decide +kernel
theorem dX11_currentOf_69 : decode cX11_currentOf 69 = .ok (.isub, 1) := by decide +kernel
theorem dX11_currentOf_70 : decode cX11_currentOf 70 = .ok (.invokestatic 225, 3) := by decide +kernel
theorem dX11_currentOf_73 : decode cX11_currentOf 73 = .ok (.imul, 1) := by decide +kernel
theorem dX11_currentOf_74 : decode cX11_currentOf 74 = .ok (.aload_n 0, 1) := by decide +kernel
theorem dX11_currentOf_75 : decode cX11_currentOf 75 = .ok (.getfield 9, 3) := by decide +kernel
theorem dX11_currentOf_78 : decode cX11_currentOf 78 = .ok (.bipush 16, 2) := by decide +kernel
theorem dX11_currentOf_80 : decode cX11_currentOf 80 = .ok (.iaload, 1) := by decide +kernel
theorem dX11_currentOf_81 : decode cX11_currentOf 81 = .ok (.idiv, 1) := by decide +kernel
theorem dX11_currentOf_82 : decode cX11_currentOf 82 = .ok (.istore_n 2, 1) := by decide +kernel
theorem dX11_currentOf_83 : decode cX11_currentOf 83 = .ok (.iload_n 2, 1) := by decide +kernel
theorem dX11_currentOf_84 : decode cX11_currentOf 84 = .ok (.aload_n 0, 1) := by decide +kernel
theorem dX11_currentOf_85 : decode cX11_currentOf 85 = .ok (.iload_n 1, 1) := by decide +kernel
theorem dX11_currentOf_86 : decode cX11_currentOf 86 = .ok (.bipush 6, 2) := by decide +kernel
theorem dX11_currentOf_88 : decode cX11_currentOf 88 = .ok (.invokevirtual 209, 3) := by decide +kernel
theorem dX11_currentOf_91 : decode cX11_currentOf 91 = .ok (.ineg, 1) := by decide +kernel
theorem dX11_currentOf_92 : decode cX11_currentOf 92 = .ok (.invokestatic 225, 3) := by decide +kernel
theorem dX11_currentOf_95 : decode cX11_currentOf 95 = .ok (.ireturn, 1) := by decide +kernel
set_option maxRecDepth 100000 in
set_option maxHeartbeats 4000000 in
theorem m_X11_currentOf (l : Launch) (D : va_G) (ct : Nat → ClassId) (S : ty_S) (ws : va_W) (mo : Nat) (mw : Nat) (ma : Nat) (mf : Nat) (m0 : Nat) (m1 : Nat) (mu : Nat) (mv : Nat) (u0 : Nat) (u1 : Nat) (iz : Nat) (mb : Nat) (th : Int32) (mn : Int32) (mpt : Int32) (mbg : Int32) (mwr : Int32) (mwk : Int32) (mlf : Int32) (men : Int32) (f : Nat → Int32) (G : Nat → Int32) (p1 : Int32) (sz : Nat) (hT : ty_W ct S ws) (h_mu : S mu = some (.inr (1, 42))) (h_mv : S mv = some (.inr (1, 42))) (h_u0 : S u0 = some (.inr (1, 42))) (h_u1 : S u1 = some (.inr (1, 42))) (hR : rf_R G (-1) f) (hc : 0 ≤ p1.toInt ∧ p1.toInt < (G 9).toInt) : Met l yX11_currentOf (ws_ yX11_currentOf cX11_currentOf 3 (some .int)) ({ frames := 3, cells := 0, slots := 0, locals := 76 } : Room) (va_Pc [.ref mo, .int p1] (cmP D ct sz ([(mo, .inr (11, [.ref mw, .ref ma, .ref mf, .ref m0, .ref m1, .ref mu, .ref mv, .ref u0, .ref u1, .ref iz, .int th, .ref mb, .int mn, .int mpt, .int mbg, .int mwr, .int mwk, .int mlf, .int men])), (mw, .inl (ct 0, 958, .inl f))] ++ ws))) (va_Qi (fun (r : Int32) (u9 : va_W) => ty_W ct S u9 ∧ -((rf_of f p1 6).toInt) ≤ r.toInt ∧ r.toInt ≤ 5000) (cmB D ([(mo, .inr (11, [.ref mw, .ref ma, .ref mf, .ref m0, .ref m1, .ref mu, .ref mv, .ref u0, .ref u1, .ref iz, .int th, .ref mb, .int mn, .int mpt, .int mbg, .int mwr, .int mwk, .int mlf, .int men])), (mw, .inl (ct 0, 958, .inl f))] ++ ws) sz (fun (u9 : va_W) => ([(mo, .inr (11, [.ref mw, .ref ma, .ref mf, .ref m0, .ref m1, .ref mu, .ref mv, .ref u0, .ref u1, .ref iz, .int th, .ref mb, .int mn, .int mpt, .int mbg, .int mwr, .int mwk, .int mlf, .int men])), (mw, .inl (ct 0, 958, .inl f))] ++ u9))) (va_A ([(mo, .inr (11, [.ref mw, .ref ma, .ref mf, .ref m0, .ref m1, .ref mu, .ref mv, .ref u0, .ref u1, .ref iz, .int th, .ref mb, .int mn, .int mpt, .int mbg, .int mwr, .int mwk, .int mlf, .int men])), (mw, .inl (ct 0, 958, .inl f))] ++ ws) sz)) 0 0 (va_A ([(mo, .inr (11, [.ref mw, .ref ma, .ref mf, .ref m0, .ref m1, .ref mu, .ref mv, .ref u0, .ref u1, .ref iz, .int th, .ref mb, .int mn, .int mpt, .int mbg, .int mwr, .int mwk, .int mlf, .int men])), (mw, .inl (ct 0, 958, .inl f))] ++ ws) sz) := by
  refine Met.ofW (cc := cX11_currentOf) (maxL := 3) (ret := (some .int)) (by decide) rfl ?_
  intro p e s m args below meth c s₁ B hml hv
  obtain ⟨rfl, hsz, hP, hK, hD0, hX⟩ := hv
  have hx := B.exec
  have hb := B.bytes
  have hr := B.returns
  have hts := ws_all (atoms_spec (ws := ws_ yX11_currentOf cX11_currentOf 3 (some .int)) B.pre)
  have hown : s.vm.findClass RX11 = some m.cls := findClass_of_methodNamed B.named
  have hlocks := B.notSynchronized
  subst hsz
  have hD := hD0.self (sz := s.heap.size)
  generalize hAe : va_A ([(mo, .inr (11, [.ref mw, .ref ma, .ref mf, .ref m0, .ref m1, .ref mu, .ref mv, .ref u0, .ref u1, .ref iz, .int th, .ref mb, .int mn, .int mpt, .int mbg, .int mwr, .int mwk, .int mlf, .int men])), (mw, .inl (ct 0, 958, .inl f))] ++ ws) s.heap.size = A at hD hX ⊢
  have hA : ∀ q : Nat, s.heap.size ≤ q → A q := fun q h => by rw [← hAe]; exact Or.inr h
  have hS : va_S A s.heap s.heap [] := va_S.rf
  have hl := lv_entry ([.ref mo, .int p1]) (n := 3) (Nat.le_of_ble_eq_true rfl)
  rw [lg_entry_eq]
  generalize (lg_sl ([.ref mo, .int p1]) ++ List.replicate (3 - (lg_sl ([.ref mo, .int p1])).length) Slot.unset).toArray = ls at hl ⊢
  have hl : lv_has ls 3 [(0, .ref mo), (1, .int p1)] := hl
  refine lv_aload_n hx hb dX11_currentOf_0 rfl (lv_at hl 0 rfl) ?_
  refine lv_iload_n hx hb dX11_currentOf_1 rfl (lv_at hl 1 rfl) ?_
  refine lv_iconst (v := 0) hx hb dX11_currentOf_2 (by decide) ?_
  refine ty_ki (wr := []) (wc := ([(mo, .inr (11, [.ref mw, .ref ma, .ref mf, .ref m0, .ref m1, .ref mu, .ref mv, .ref u0, .ref u1, .ref iz, .int th, .ref mb, .int mn, .int mpt, .int mbg, .int mwr, .int mwk, .int mlf, .int men])), (mw, .inl (ct 0, 958, .inl f))] ++ ws)) (va_runV (As := [.int p1, .int 0]) (rest := []) ⟨hx, hb, hml, hown, hts⟩ (m_of_0 l D ct S ws mo mw ma mf m0 m1 mu mv u0 u1 iz mb th mn mpt mbg mwr mwk mlf men f G (-1) p1 _ hT h_mu h_mv h_u0 h_u1 hR hc) (cm_V 2 hts kc_X11_of ki_RX11 kl_RX11_209 kv_X11_of kx_X11_of kd_X11_of ⟨Nat.le_of_ble_eq_true rfl, Nat.le_of_ble_eq_true rfl⟩) (ty_preE (wr := []) (wc := ([(mo, .inr (11, [.ref mw, .ref ma, .ref mf, .ref m0, .ref m1, .ref mu, .ref mv, .ref u0, .ref u1, .ref iz, .int th, .ref mb, .int mn, .int mpt, .int mbg, .int mwr, .int mwk, .int mlf, .int men])), (mw, .inl (ct 0, 958, .inl f))] ++ ws)) (ci := 11) (q0 := 0) hP hK hD hS hA hX rfl rfl) rfl rfl hl.1 rfl (lv_room (Nat.le_of_ble_eq_true rfl)) dX11_currentOf_3 ⟨Nat.le_of_ble_eq_true rfl, Nat.le_of_ble_eq_true rfl⟩) hP hD hS hA (fun r_1 u H locs hw_2 hP hD hS => ?_)
  obtain ⟨ws_3, rfl⟩ : ∃ z, z = u := ⟨_, rfl⟩
  obtain ⟨hT, rfl⟩ := hw_2
  have hP : va_P D vwCl ([(mo, .inr (11, [.ref mw, .ref ma, .ref mf, .ref m0, .ref m1, .ref mu, .ref mv, .ref u0, .ref u1, .ref iz, .int th, .ref mb, .int mn, .int mpt, .int mbg, .int mwr, .int mwk, .int mlf, .int men])), (mw, .inl (ct 0, 958, .inl f))] ++ ws_3) H := hP
  have hD : va_D A ([(mo, .inr (11, [.ref mw, .ref ma, .ref mf, .ref m0, .ref m1, .ref mu, .ref mv, .ref u0, .ref u1, .ref iz, .int th, .ref mb, .int mn, .int mpt, .int mbg, .int mwr, .int mwk, .int mlf, .int men])), (mw, .inl (ct 0, 958, .inl f))] ++ ws_3) := hD
  refine lv_iconst (v := 1) hx hb dX11_currentOf_6 (by decide) ?_
  refine lv_icmp_eq (tgt := 12) hx hb dX11_currentOf_7 (by decide) (fun hc_4 => ?_) (fun hc_4 => ?_)
  · refine lv_aload_n hx hb dX11_currentOf_12 rfl (lv_at hl 0 rfl) ?_
    refine lv_iload_n hx hb dX11_currentOf_13 rfl (lv_at hl 1 rfl) ?_
    refine ty_ki (wr := []) (wc := ([(mo, .inr (11, [.ref mw, .ref ma, .ref mf, .ref m0, .ref m1, .ref mu, .ref mv, .ref u0, .ref u1, .ref iz, .int th, .ref mb, .int mn, .int mpt, .int mbg, .int mwr, .int mwk, .int mlf, .int men])), (mw, .inl (ct 0, 958, .inl f))] ++ ws_3)) (va_runV (As := [.int p1]) (rest := []) ⟨hx, hb, hml, hown, hts⟩ (m_X11_wantedOf l D ct S ws_3 mo mw ma mf m0 m1 mu mv u0 u1 iz mb th mn mpt mbg mwr mwk mlf men f G (-1) p1 _ hT h_mu h_mv h_u0 h_u1 hR hc (rf_onr hR hc (Or.inl hc_4))) (cm_V 1 hts kc_X11_wantedOf ki_RX11 kl_RX11_222 kv_X11_wantedOf kx_X11_wantedOf kd_X11_wantedOf ⟨Nat.le_of_ble_eq_true rfl, Nat.le_of_ble_eq_true rfl⟩) (ty_preE (wr := []) (wc := ([(mo, .inr (11, [.ref mw, .ref ma, .ref mf, .ref m0, .ref m1, .ref mu, .ref mv, .ref u0, .ref u1, .ref iz, .int th, .ref mb, .int mn, .int mpt, .int mbg, .int mwr, .int mwk, .int mlf, .int men])), (mw, .inl (ct 0, 958, .inl f))] ++ ws_3)) (ci := 11) (q0 := 0) hP hK hD hS hA hX rfl rfl) rfl rfl hl.1 rfl (lv_room (Nat.le_of_ble_eq_true rfl)) dX11_currentOf_14 ⟨Nat.le_of_ble_eq_true rfl, Nat.le_of_ble_eq_true rfl⟩) hP hD hS hA (fun r_5 u H locs hw_6 hP hD hS => ?_)
    obtain ⟨ws_7, rfl⟩ : ∃ z, z = u := ⟨_, rfl⟩
    obtain ⟨hT, hp_8⟩ := hw_6
    have hp_8 : -5000 ≤ r_5.toInt ∧ r_5.toInt ≤ 5000 := hp_8
    have hP : va_P D vwCl ([(mo, .inr (11, [.ref mw, .ref ma, .ref mf, .ref m0, .ref m1, .ref mu, .ref mv, .ref u0, .ref u1, .ref iz, .int th, .ref mb, .int mn, .int mpt, .int mbg, .int mwr, .int mwk, .int mlf, .int men])), (mw, .inl (ct 0, 958, .inl f))] ++ ws_7) H := hP
    have hD : va_D A ([(mo, .inr (11, [.ref mw, .ref ma, .ref mf, .ref m0, .ref m1, .ref mu, .ref mv, .ref u0, .ref u1, .ref iz, .int th, .ref mb, .int mn, .int mpt, .int mbg, .int mwr, .int mwk, .int mlf, .int men])), (mw, .inl (ct 0, 958, .inl f))] ++ ws_7) := hD
    refine lv_istore_n (lv' := [(2, .int r_5), (0, .ref mo), (1, .int p1)]) hx hb dX11_currentOf_17 rfl hl (by decide) rfl (fun ls hl => ?_)
    refine lv_aload_n hx hb dX11_currentOf_18 rfl (lv_at hl 1 rfl) ?_
    refine va_get (v := .ref mw) (D := D) (ci := 11) (C := RX11) (T := TX11) (N := 19) hx hb hts in_X11 hown hK hP 0 rfl rfl 0 (by decide) (hts _ kl_RX11_9) (fun _ h9 => h9) rfl dX11_currentOf_19 ?_
    refine lv_bipush (v := 16) hx hb dX11_currentOf_22 (by decide) ?_
    refine va_iald hx hb hK hP 1 0 rfl rfl (cm_vin (by decide)) dX11_currentOf_24 ?_
    refine cm_cst (y := (f 16)) (by first | rfl | decide +kernel) ?_
    refine lv_if_eq (tgt := 83) hx hb dX11_currentOf_25 (by decide) (fun hc_9 => ?_) (fun hc_9 => ?_)
    · refine lv_iload_n hx hb dX11_currentOf_83 rfl (lv_at hl 0 rfl) ?_
      refine lv_aload_n hx hb dX11_currentOf_84 rfl (lv_at hl 1 rfl) ?_
      refine lv_iload_n hx hb dX11_currentOf_85 rfl (lv_at hl 2 rfl) ?_
      refine lv_bipush (v := 6) hx hb dX11_currentOf_86 (by decide) ?_
      refine ty_ki (wr := []) (wc := ([(mo, .inr (11, [.ref mw, .ref ma, .ref mf, .ref m0, .ref m1, .ref mu, .ref mv, .ref u0, .ref u1, .ref iz, .int th, .ref mb, .int mn, .int mpt, .int mbg, .int mwr, .int mwk, .int mlf, .int men])), (mw, .inl (ct 0, 958, .inl f))] ++ ws_7)) (va_runV (As := [.int p1, .int 6]) (rest := [.int r_5]) ⟨hx, hb, hml, hown, hts⟩ (m_of_6 l D ct S ws_7 mo mw ma mf m0 m1 mu mv u0 u1 iz mb th mn mpt mbg mwr mwk mlf men f G (-1) p1 _ hT h_mu h_mv h_u0 h_u1 hR hc) (cm_V 2 hts kc_X11_of ki_RX11 kl_RX11_209 kv_X11_of kx_X11_of kd_X11_of ⟨Nat.le_of_ble_eq_true rfl, Nat.le_of_ble_eq_true rfl⟩) (ty_preE (wr := []) (wc := ([(mo, .inr (11, [.ref mw, .ref ma, .ref mf, .ref m0, .ref m1, .ref mu, .ref mv, .ref u0, .ref u1, .ref iz, .int th, .ref mb, .int mn, .int mpt, .int mbg, .int mwr, .int mwk, .int mlf, .int men])), (mw, .inl (ct 0, 958, .inl f))] ++ ws_7)) (ci := 11) (q0 := 0) hP hK hD hS hA hX rfl rfl) rfl rfl hl.1 rfl (lv_room (Nat.le_of_ble_eq_true rfl)) dX11_currentOf_88 ⟨Nat.le_of_ble_eq_true rfl, Nat.le_of_ble_eq_true rfl⟩) hP hD hS hA (fun r_10 u H locs hw_11 hP hD hS => ?_)
      obtain ⟨ws_12, rfl⟩ : ∃ z, z = u := ⟨_, rfl⟩
      obtain ⟨hT, rfl⟩ := hw_11
      have hP : va_P D vwCl ([(mo, .inr (11, [.ref mw, .ref ma, .ref mf, .ref m0, .ref m1, .ref mu, .ref mv, .ref u0, .ref u1, .ref iz, .int th, .ref mb, .int mn, .int mpt, .int mbg, .int mwr, .int mwk, .int mlf, .int men])), (mw, .inl (ct 0, 958, .inl f))] ++ ws_12) H := hP
      have hD : va_D A ([(mo, .inr (11, [.ref mw, .ref ma, .ref mf, .ref m0, .ref m1, .ref mu, .ref mv, .ref u0, .ref u1, .ref iz, .int th, .ref mb, .int mn, .int mpt, .int mbg, .int mwr, .int mwk, .int mlf, .int men])), (mw, .inl (ct 0, 958, .inl f))] ++ ws_12) := hD
      refine lv_ineg hx hb dX11_currentOf_91 ?_
      refine va_mmax hx hb (hml.trans hl.1.symm) hown (hts _ kl_RX11_225) (hts _ jm_max_s) (hts _ ki_RJ9) (hts _ jm_max_c) (Nat.le_of_ble_eq_true rfl) (Nat.le_of_ble_eq_true rfl) (Nat.le_of_ble_eq_true rfl) (Nat.le_of_ble_eq_true rfl) dX11_currentOf_92 ?_
      exact W.iret (v := (if r_5 < (- (rf_of f p1 6)) then (- (rf_of f p1 6)) else r_5)) hx hb hr (fun t ht hW => ⟨⟨(if r_5 < (- (rf_of f p1 6)) then (- (rf_of f p1 6)) else r_5), ws_12, rfl, ⟨hT, (rf_mxq hp_8.2 (rf_qp hR hc).1.1.1)⟩, by rw [ht]; exact hP, by rw [hAe]; exact hD⟩, hS.F ht⟩) hS.2.2 dX11_currentOf_95
    · refine lv_aload_n hx hb dX11_currentOf_28 rfl (lv_at hl 1 rfl) ?_
      refine lv_iload_n hx hb dX11_currentOf_29 rfl (lv_at hl 2 rfl) ?_
      refine lv_bipush (v := 9) hx hb dX11_currentOf_30 (by decide) ?_
      refine ty_ki (wr := []) (wc := ([(mo, .inr (11, [.ref mw, .ref ma, .ref mf, .ref m0, .ref m1, .ref mu, .ref mv, .ref u0, .ref u1, .ref iz, .int th, .ref mb, .int mn, .int mpt, .int mbg, .int mwr, .int mwk, .int mlf, .int men])), (mw, .inl (ct 0, 958, .inl f))] ++ ws_7)) (va_runV (As := [.int p1, .int 9]) (rest := []) ⟨hx, hb, hml, hown, hts⟩ (m_of_9 l D ct S ws_7 mo mw ma mf m0 m1 mu mv u0 u1 iz mb th mn mpt mbg mwr mwk mlf men f G (-1) p1 _ hT h_mu h_mv h_u0 h_u1 hR hc) (cm_V 2 hts kc_X11_of ki_RX11 kl_RX11_209 kv_X11_of kx_X11_of kd_X11_of ⟨Nat.le_of_ble_eq_true rfl, Nat.le_of_ble_eq_true rfl⟩) (ty_preE (wr := []) (wc := ([(mo, .inr (11, [.ref mw, .ref ma, .ref mf, .ref m0, .ref m1, .ref mu, .ref mv, .ref u0, .ref u1, .ref iz, .int th, .ref mb, .int mn, .int mpt, .int mbg, .int mwr, .int mwk, .int mlf, .int men])), (mw, .inl (ct 0, 958, .inl f))] ++ ws_7)) (ci := 11) (q0 := 0) hP hK hD hS hA hX rfl rfl) rfl rfl hl.1 rfl (lv_room (Nat.le_of_ble_eq_true rfl)) dX11_currentOf_32 ⟨Nat.le_of_ble_eq_true rfl, Nat.le_of_ble_eq_true rfl⟩) hP hD hS hA (fun r_13 u H locs hw_14 hP hD hS => ?_)
      obtain ⟨ws_15, rfl⟩ : ∃ z, z = u := ⟨_, rfl⟩
      obtain ⟨hT, rfl⟩ := hw_14
      have hP : va_P D vwCl ([(mo, .inr (11, [.ref mw, .ref ma, .ref mf, .ref m0, .ref m1, .ref mu, .ref mv, .ref u0, .ref u1, .ref iz, .int th, .ref mb, .int mn, .int mpt, .int mbg, .int mwr, .int mwk, .int mlf, .int men])), (mw, .inl (ct 0, 958, .inl f))] ++ ws_15) H := hP
      have hD : va_D A ([(mo, .inr (11, [.ref mw, .ref ma, .ref mf, .ref m0, .ref m1, .ref mu, .ref mv, .ref u0, .ref u1, .ref iz, .int th, .ref mb, .int mn, .int mpt, .int mbg, .int mwr, .int mwk, .int mlf, .int men])), (mw, .inl (ct 0, 958, .inl f))] ++ ws_15) := hD
      refine lv_aload_n hx hb dX11_currentOf_35 rfl (lv_at hl 1 rfl) ?_
      refine va_get (v := .ref mw) (D := D) (ci := 11) (C := RX11) (T := TX11) (N := 19) hx hb hts in_X11 hown hK hP 0 rfl rfl 0 (by decide) (hts _ kl_RX11_9) (fun _ h9 => h9) rfl dX11_currentOf_36 ?_
      refine lv_bipush (v := 6) hx hb dX11_currentOf_39 (by decide) ?_
      refine va_iald hx hb hK hP 1 0 rfl rfl (cm_vin (by decide)) dX11_currentOf_41 ?_
      refine cm_cst (y := (f 6)) (by first | rfl | decide +kernel) ?_
      refine lv_aload_n hx hb dX11_currentOf_42 rfl (lv_at hl 1 rfl) ?_
      refine va_get (v := .ref mw) (D := D) (ci := 11) (C := RX11) (T := TX11) (N := 19) hx hb hts in_X11 hown hK hP 0 rfl rfl 0 (by decide) (hts _ kl_RX11_9) (fun _ h9 => h9) rfl dX11_currentOf_43 ?_
      refine lv_bipush (v := 16) hx hb dX11_currentOf_46 (by decide) ?_
      refine va_iald hx hb hK hP 1 0 rfl rfl (cm_vin (by decide)) dX11_currentOf_48 ?_
      refine cm_cst (y := (f 16)) (by first | rfl | decide +kernel) ?_
      refine lv_isub hx hb dX11_currentOf_49 ?_
      refine lv_icmp_le (tgt := 83) hx hb dX11_currentOf_50 (by decide) (fun hc_16 => ?_) (fun hc_16 => ?_)
      · refine lv_iload_n hx hb dX11_currentOf_83 rfl (lv_at hl 0 rfl) ?_
        refine lv_aload_n hx hb dX11_currentOf_84 rfl (lv_at hl 1 rfl) ?_
        refine lv_iload_n hx hb dX11_currentOf_85 rfl (lv_at hl 2 rfl) ?_
        refine lv_bipush (v := 6) hx hb dX11_currentOf_86 (by decide) ?_
        refine ty_ki (wr := []) (wc := ([(mo, .inr (11, [.ref mw, .ref ma, .ref mf, .ref m0, .ref m1, .ref mu, .ref mv, .ref u0, .ref u1, .ref iz, .int th, .ref mb, .int mn, .int mpt, .int mbg, .int mwr, .int mwk, .int mlf, .int men])), (mw, .inl (ct 0, 958, .inl f))] ++ ws_15)) (va_runV (As := [.int p1, .int 6]) (rest := [.int r_5]) ⟨hx, hb, hml, hown, hts⟩ (m_of_6 l D ct S ws_15 mo mw ma mf m0 m1 mu mv u0 u1 iz mb th mn mpt mbg mwr mwk mlf men f G (-1) p1 _ hT h_mu h_mv h_u0 h_u1 hR hc) (cm_V 2 hts kc_X11_of ki_RX11 kl_RX11_209 kv_X11_of kx_X11_of kd_X11_of ⟨Nat.le_of_ble_eq_true rfl, Nat.le_of_ble_eq_true rfl⟩) (ty_preE (wr := []) (wc := ([(mo, .inr (11, [.ref mw, .ref ma, .ref mf, .ref m0, .ref m1, .ref mu, .ref mv, .ref u0, .ref u1, .ref iz, .int th, .ref mb, .int mn, .int mpt, .int mbg, .int mwr, .int mwk, .int mlf, .int men])), (mw, .inl (ct 0, 958, .inl f))] ++ ws_15)) (ci := 11) (q0 := 0) hP hK hD hS hA hX rfl rfl) rfl rfl hl.1 rfl (lv_room (Nat.le_of_ble_eq_true rfl)) dX11_currentOf_88 ⟨Nat.le_of_ble_eq_true rfl, Nat.le_of_ble_eq_true rfl⟩) hP hD hS hA (fun r_17 u H locs hw_18 hP hD hS => ?_)
        obtain ⟨ws_19, rfl⟩ : ∃ z, z = u := ⟨_, rfl⟩
        obtain ⟨hT, rfl⟩ := hw_18
        have hP : va_P D vwCl ([(mo, .inr (11, [.ref mw, .ref ma, .ref mf, .ref m0, .ref m1, .ref mu, .ref mv, .ref u0, .ref u1, .ref iz, .int th, .ref mb, .int mn, .int mpt, .int mbg, .int mwr, .int mwk, .int mlf, .int men])), (mw, .inl (ct 0, 958, .inl f))] ++ ws_19) H := hP
        have hD : va_D A ([(mo, .inr (11, [.ref mw, .ref ma, .ref mf, .ref m0, .ref m1, .ref mu, .ref mv, .ref u0, .ref u1, .ref iz, .int th, .ref mb, .int mn, .int mpt, .int mbg, .int mwr, .int mwk, .int mlf, .int men])), (mw, .inl (ct 0, 958, .inl f))] ++ ws_19) := hD
        refine lv_ineg hx hb dX11_currentOf_91 ?_
        refine va_mmax hx hb (hml.trans hl.1.symm) hown (hts _ kl_RX11_225) (hts _ jm_max_s) (hts _ ki_RJ9) (hts _ jm_max_c) (Nat.le_of_ble_eq_true rfl) (Nat.le_of_ble_eq_true rfl) (Nat.le_of_ble_eq_true rfl) (Nat.le_of_ble_eq_true rfl) dX11_currentOf_92 ?_
        exact W.iret (v := (if r_5 < (- (rf_of f p1 6)) then (- (rf_of f p1 6)) else r_5)) hx hb hr (fun t ht hW => ⟨⟨(if r_5 < (- (rf_of f p1 6)) then (- (rf_of f p1 6)) else r_5), ws_19, rfl, ⟨hT, (rf_mxq hp_8.2 (rf_qp hR hc).1.1.1)⟩, by rw [ht]; exact hP, by rw [hAe]; exact hD⟩, hS.F ht⟩) hS.2.2 dX11_currentOf_95
      · refine lv_iload_n hx hb dX11_currentOf_53 rfl (lv_at hl 0 rfl) ?_
        refine lv_iconst (v := 0) hx hb dX11_currentOf_54 (by decide) ?_
        refine lv_aload_n hx hb dX11_currentOf_55 rfl (lv_at hl 1 rfl) ?_
        refine va_get (v := .ref mw) (D := D) (ci := 11) (C := RX11) (T := TX11) (N := 19) hx hb hts in_X11 hown hK hP 0 rfl rfl 0 (by decide) (hts _ kl_RX11_9) (fun _ h9 => h9) rfl dX11_currentOf_56 ?_
        refine lv_bipush (v := 6) hx hb dX11_currentOf_59 (by decide) ?_
        refine va_iald hx hb hK hP 1 0 rfl rfl (cm_vin (by decide)) dX11_currentOf_61 ?_
        refine cm_cst (y := (f 6)) (by first | rfl | decide +kernel) ?_
        refine lv_aload_n hx hb dX11_currentOf_62 rfl (lv_at hl 1 rfl) ?_
        refine lv_iload_n hx hb dX11_currentOf_63 rfl (lv_at hl 2 rfl) ?_
        refine lv_bipush (v := 9) hx hb dX11_currentOf_64 (by decide) ?_
        refine ty_ki (wr := []) (wc := ([(mo, .inr (11, [.ref mw, .ref ma, .ref mf, .ref m0, .ref m1, .ref mu, .ref mv, .ref u0, .ref u1, .ref iz, .int th, .ref mb, .int mn, .int mpt, .int mbg, .int mwr, .int mwk, .int mlf, .int men])), (mw, .inl (ct 0, 958, .inl f))] ++ ws_15)) (va_runV (As := [.int p1, .int 9]) (rest := [.int (f 6), .int 0, .int r_5]) ⟨hx, hb, hml, hown, hts⟩ (m_of_9 l D ct S ws_15 mo mw ma mf m0 m1 mu mv u0 u1 iz mb th mn mpt mbg mwr mwk mlf men f G (-1) p1 _ hT h_mu h_mv h_u0 h_u1 hR hc) (cm_V 2 hts kc_X11_of ki_RX11 kl_RX11_209 kv_X11_of kx_X11_of kd_X11_of ⟨Nat.le_of_ble_eq_true rfl, Nat.le_of_ble_eq_true rfl⟩) (ty_preE (wr := []) (wc := ([(mo, .inr (11, [.ref mw, .ref ma, .ref mf, .ref m0, .ref m1, .ref mu, .ref mv, .ref u0, .ref u1, .ref iz, .int th, .ref mb, .int mn, .int mpt, .int mbg, .int mwr, .int mwk, .int mlf, .int men])), (mw, .inl (ct 0, 958, .inl f))] ++ ws_15)) (ci := 11) (q0 := 0) hP hK hD hS hA hX rfl rfl) rfl rfl hl.1 rfl (lv_room (Nat.le_of_ble_eq_true rfl)) dX11_currentOf_66 ⟨Nat.le_of_ble_eq_true rfl, Nat.le_of_ble_eq_true rfl⟩) hP hD hS hA (fun r_20 u H locs hw_21 hP hD hS => ?_)
        obtain ⟨ws_22, rfl⟩ : ∃ z, z = u := ⟨_, rfl⟩
        obtain ⟨hT, rfl⟩ := hw_21
        have hP : va_P D vwCl ([(mo, .inr (11, [.ref mw, .ref ma, .ref mf, .ref m0, .ref m1, .ref mu, .ref mv, .ref u0, .ref u1, .ref iz, .int th, .ref mb, .int mn, .int mpt, .int mbg, .int mwr, .int mwk, .int mlf, .int men])), (mw, .inl (ct 0, 958, .inl f))] ++ ws_22) H := hP
        have hD : va_D A ([(mo, .inr (11, [.ref mw, .ref ma, .ref mf, .ref m0, .ref m1, .ref mu, .ref mv, .ref u0, .ref u1, .ref iz, .int th, .ref mb, .int mn, .int mpt, .int mbg, .int mwr, .int mwk, .int mlf, .int men])), (mw, .inl (ct 0, 958, .inl f))] ++ ws_22) := hD
        refine lv_isub hx hb dX11_currentOf_69 ?_
        refine va_mmax hx hb (hml.trans hl.1.symm) hown (hts _ kl_RX11_225) (hts _ jm_max_s) (hts _ ki_RJ9) (hts _ jm_max_c) (Nat.le_of_ble_eq_true rfl) (Nat.le_of_ble_eq_true rfl) (Nat.le_of_ble_eq_true rfl) (Nat.le_of_ble_eq_true rfl) dX11_currentOf_70 ?_
        refine lv_imul hx hb dX11_currentOf_73 ?_
        refine lv_aload_n hx hb dX11_currentOf_74 rfl (lv_at hl 1 rfl) ?_
        refine va_get (v := .ref mw) (D := D) (ci := 11) (C := RX11) (T := TX11) (N := 19) hx hb hts in_X11 hown hK hP 0 rfl rfl 0 (by decide) (hts _ kl_RX11_9) (fun _ h9 => h9) rfl dX11_currentOf_75 ?_
        refine lv_bipush (v := 16) hx hb dX11_currentOf_78 (by decide) ?_
        refine va_iald hx hb hK hP 1 0 rfl rfl (cm_vin (by decide)) dX11_currentOf_80 ?_
        refine cm_cst (y := (f 16)) (by first | rfl | decide +kernel) ?_
        refine lv_idiv hx hb dX11_currentOf_81 hc_9 ?_
        refine lv_istore_n (lv' := [(2, .int ((r_5 * (if 0 < ((f 6) - (rf_of f p1 9)) then ((f 6) - (rf_of f p1 9)) else 0)) / (f 16))), (0, .ref mo), (1, .int p1)]) hx hb dX11_currentOf_82 rfl hl (by decide) rfl (fun ls hl => ?_)
        refine lv_iload_n hx hb dX11_currentOf_83 rfl (lv_at hl 0 rfl) ?_
        refine lv_aload_n hx hb dX11_currentOf_84 rfl (lv_at hl 1 rfl) ?_
        refine lv_iload_n hx hb dX11_currentOf_85 rfl (lv_at hl 2 rfl) ?_
        refine lv_bipush (v := 6) hx hb dX11_currentOf_86 (by decide) ?_
        refine ty_ki (wr := []) (wc := ([(mo, .inr (11, [.ref mw, .ref ma, .ref mf, .ref m0, .ref m1, .ref mu, .ref mv, .ref u0, .ref u1, .ref iz, .int th, .ref mb, .int mn, .int mpt, .int mbg, .int mwr, .int mwk, .int mlf, .int men])), (mw, .inl (ct 0, 958, .inl f))] ++ ws_22)) (va_runV (As := [.int p1, .int 6]) (rest := [.int ((r_5 * (if 0 < ((f 6) - (rf_of f p1 9)) then ((f 6) - (rf_of f p1 9)) else 0)) / (f 16))]) ⟨hx, hb, hml, hown, hts⟩ (m_of_6 l D ct S ws_22 mo mw ma mf m0 m1 mu mv u0 u1 iz mb th mn mpt mbg mwr mwk mlf men f G (-1) p1 _ hT h_mu h_mv h_u0 h_u1 hR hc) (cm_V 2 hts kc_X11_of ki_RX11 kl_RX11_209 kv_X11_of kx_X11_of kd_X11_of ⟨Nat.le_of_ble_eq_true rfl, Nat.le_of_ble_eq_true rfl⟩) (ty_preE (wr := []) (wc := ([(mo, .inr (11, [.ref mw, .ref ma, .ref mf, .ref m0, .ref m1, .ref mu, .ref mv, .ref u0, .ref u1, .ref iz, .int th, .ref mb, .int mn, .int mpt, .int mbg, .int mwr, .int mwk, .int mlf, .int men])), (mw, .inl (ct 0, 958, .inl f))] ++ ws_22)) (ci := 11) (q0 := 0) hP hK hD hS hA hX rfl rfl) rfl rfl hl.1 rfl (lv_room (Nat.le_of_ble_eq_true rfl)) dX11_currentOf_88 ⟨Nat.le_of_ble_eq_true rfl, Nat.le_of_ble_eq_true rfl⟩) hP hD hS hA (fun r_23 u H locs hw_24 hP hD hS => ?_)
        obtain ⟨ws_25, rfl⟩ : ∃ z, z = u := ⟨_, rfl⟩
        obtain ⟨hT, rfl⟩ := hw_24
        have hP : va_P D vwCl ([(mo, .inr (11, [.ref mw, .ref ma, .ref mf, .ref m0, .ref m1, .ref mu, .ref mv, .ref u0, .ref u1, .ref iz, .int th, .ref mb, .int mn, .int mpt, .int mbg, .int mwr, .int mwk, .int mlf, .int men])), (mw, .inl (ct 0, 958, .inl f))] ++ ws_25) H := hP
        have hD : va_D A ([(mo, .inr (11, [.ref mw, .ref ma, .ref mf, .ref m0, .ref m1, .ref mu, .ref mv, .ref u0, .ref u1, .ref iz, .int th, .ref mb, .int mn, .int mpt, .int mbg, .int mwr, .int mwk, .int mlf, .int men])), (mw, .inl (ct 0, 958, .inl f))] ++ ws_25) := hD
        refine lv_ineg hx hb dX11_currentOf_91 ?_
        refine va_mmax hx hb (hml.trans hl.1.symm) hown (hts _ kl_RX11_225) (hts _ jm_max_s) (hts _ ki_RJ9) (hts _ jm_max_c) (Nat.le_of_ble_eq_true rfl) (Nat.le_of_ble_eq_true rfl) (Nat.le_of_ble_eq_true rfl) (Nat.le_of_ble_eq_true rfl) dX11_currentOf_92 ?_
        exact W.iret (v := (if ((r_5 * (if 0 < ((f 6) - (rf_of f p1 9)) then ((f 6) - (rf_of f p1 9)) else 0)) / (f 16)) < (- (rf_of f p1 6)) then (- (rf_of f p1 6)) else ((r_5 * (if 0 < ((f 6) - (rf_of f p1 9)) then ((f 6) - (rf_of f p1 9)) else 0)) / (f 16)))) hx hb hr (fun t ht hW => ⟨⟨(if ((r_5 * (if 0 < ((f 6) - (rf_of f p1 9)) then ((f 6) - (rf_of f p1 9)) else 0)) / (f 16)) < (- (rf_of f p1 6)) then (- (rf_of f p1 6)) else ((r_5 * (if 0 < ((f 6) - (rf_of f p1 9)) then ((f 6) - (rf_of f p1 9)) else 0)) / (f 16))), ws_25, rfl, ⟨hT, (rf_mxq (rf_der hp_8 (rf_hs hR).1 (rf_hs hR).2.1 hc_9 hc_16).2 (rf_qp hR hc).1.1.1)⟩, by rw [ht]; exact hP, by rw [hAe]; exact hD⟩, hS.F ht⟩) hS.2.2 dX11_currentOf_95
  · refine lv_iconst (v := 0) hx hb dX11_currentOf_10 (by decide) ?_
    exact W.iret (v := 0) hx hb hr (fun t ht hW => ⟨⟨0, ws_3, rfl, ⟨hT, (by have := rf_qp hR hc; constructor <;> (rw [show (0 : Int32).toInt = 0 from by decide]; omega))⟩, by rw [ht]; exact hP, by rw [hAe]; exact hD⟩, hS.F ht⟩) hS.2.2 dX11_currentOf_11
theorem dX11_polarizes_0 : decode cX11_polarizes 0 = .ok (.iload_n 2, 1) := by decide +kernel
theorem dX11_polarizes_1 : decode cX11_polarizes 1 = .ok (.aload_n 0, 1) := by decide +kernel
theorem dX11_polarizes_2 : decode cX11_polarizes 2 = .ok (.iload_n 1, 1) := by decide +kernel
theorem dX11_polarizes_3 : decode cX11_polarizes 3 = .ok (.bipush 14, 2) := by decide +kernel
theorem dX11_polarizes_5 : decode cX11_polarizes 5 = .ok (.invokevirtual 209, 3) := by decide +kernel
theorem dX11_polarizes_8 : decode cX11_polarizes 8 = .ok (.imul, 1) := by decide +kernel
theorem dX11_polarizes_9 : decode cX11_polarizes 9 = .ok (.sipush 1000, 3) := by decide +kernel
theorem dX11_polarizes_12 : decode cX11_polarizes 12 = .ok (.idiv, 1) := by decide +kernel
theorem dX11_polarizes_13 : decode cX11_polarizes 13 = .ok (.istore_n 3, 1) := by decide +kernel
theorem dX11_polarizes_14 : decode cX11_polarizes 14 = .ok (.iload_n 3, 1) := by decide +kernel
theorem dX11_polarizes_15 : decode cX11_polarizes 15 = .ok (.aload_n 0, 1) := by decide +kernel
theorem dX11_polarizes_16 : decode cX11_polarizes 16 = .ok (.iload_n 1, 1) := by decide +kernel
theorem dX11_polarizes_17 : decode cX11_polarizes 17 = .ok (.bipush 8, 2) := by decide +kernel
theorem dX11_polarizes_19 : decode cX11_polarizes 19 = .ok (.invokevirtual 209, 3) := by decide +kernel
theorem dX11_polarizes_22 : decode cX11_polarizes 22 = .ok (.isub, 1) := by decide +kernel
theorem dX11_polarizes_23 : decode cX11_polarizes 23 = .ok (.aload_n 0, 1) := by decide +kernel
theorem dX11_polarizes_24 : decode cX11_polarizes 24 = .ok (.iload_n 1, 1) := by decide +kernel
theorem dX11_polarizes_25 : decode cX11_polarizes 25 = .ok (.bipush 15, 2) := by decide +kernel
theorem dX11_polarizes_27 : decode cX11_polarizes 27 = .ok (.invokevirtual 209, 3) := by decide +kernel
theorem dX11_polarizes_30 : decode cX11_polarizes 30 = .ok (.idiv, 1) := by decide +kernel
theorem dX11_polarizes_31 : decode cX11_polarizes 31 = .ok (.istore 4, 2) := by decide +kernel
theorem dX11_polarizes_33 : decode cX11_polarizes 33 = .ok (.iload 4, 2) := by decide +kernel
theorem dX11_polarizes_35 : decode cX11_polarizes 35 = .ok (.ifCond .ne 32, 3) := by decide +kernel
theorem dX11_polarizes_38 : decode cX11_polarizes 38 = .ok (.iload_n 3, 1) := by decide +kernel
theorem dX11_polarizes_39 : decode cX11_polarizes 39 = .ok (.aload_n 0, 1) := by decide +kernel
theorem dX11_polarizes_40 : decode cX11_polarizes 40 = .ok (.iload_n 1, 1) := by decide +kernel
theorem dX11_polarizes_41 : decode cX11_polarizes 41 = .ok (.bipush 8, 2) := by decide +kernel
theorem dX11_polarizes_43 : decode cX11_polarizes 43 = .ok (.invokevirtual 209, 3) := by decide +kernel
theorem dX11_polarizes_46 : decode cX11_polarizes 46 = .ok (.if_icmp .eq 21, 3) := by decide +kernel
theorem dX11_polarizes_49 : decode cX11_polarizes 49 = .ok (.iload_n 3, 1) := by decide +kernel
theorem dX11_polarizes_50 : decode cX11_polarizes 50 = .ok (.aload_n 0, 1) := by decide +kernel
theorem dX11_polarizes_51 : decode cX11_polarizes 51 = .ok (.iload_n 1, 1) := by decide +kernel
theorem dX11_polarizes_52 : decode cX11_polarizes 52 = .ok (.bipush 8, 2) := by decide +kernel
theorem dX11_polarizes_54 : decode cX11_polarizes 54 = .ok (.invokevirtual 209, 3) := by decide +kernel
theorem dX11_polarizes_57 : decode cX11_polarizes 57 = .ok (.if_icmp .le 7, 3) := by decide +kernel
theorem dX11_polarizes_60 : decode cX11_polarizes 60 = .ok (.iconst 1, 1) := by decide +kernel
theorem dX11_polarizes_61 : decode cX11_polarizes 61 = .ok (.goto 4, 3) := by decide +kernel
theorem dX11_polarizes_64 : decode cX11_polarizes 64 = .ok (.iconst (-1), 1) := by decide +kernel
theorem dX11_polarizes_65 : decode cX11_polarizes 65 = .ok (.istore 4, 2) := by decide +kernel
theorem dX11_polarizes_67 : decode cX11_polarizes 67 = .ok (.aload_n 0, 1) := by decide +kernel
theorem dX11_polarizes_68 : decode cX11_polarizes 68 = .ok (.iload_n 1, 1) := by decide +kernel
theorem dX11_polarizes_69 : decode cX11_polarizes 69 = .ok (.bipush 8, 2) := by decide +kernel
theorem dX11_polarizes_71 : decode cX11_polarizes 71 = .ok (.aload_n 0, 1) := by decide +kernel
theorem dX11_polarizes_72 : decode cX11_polarizes 72 = .ok (.iload_n 1, 1) := by decide +kernel
theorem dX11_polarizes_73 : decode cX11_polarizes 73 = .ok (.bipush 8, 2) := by decide +kernel
theorem dX11_polarizes_75 : decode cX11_polarizes 75 = .ok (.invokevirtual 209, 3) := by decide +kernel
theorem dX11_polarizes_78 : decode cX11_polarizes 78 = .ok (.iload 4, 2) := by decide +kernel
theorem dX11_polarizes_80 : decode cX11_polarizes 80 = .ok (.iadd, 1) := by decide +kernel
theorem dX11_polarizes_81 : decode cX11_polarizes 81 = .ok (.invokevirtual 234, 3) := by decide +kernel
theorem dX11_polarizes_84 : decode cX11_polarizes 84 = .ok (.return_, 1) := by decide +kernel
set_option maxRecDepth 100000 in
set_option maxHeartbeats 4000000 in
theorem m_X11_polarizes (l : Launch) (D : va_G) (ct : Nat → ClassId) (S : ty_S) (ws : va_W) (mo : Nat) (mw : Nat) (ma : Nat) (mf : Nat) (m0 : Nat) (m1 : Nat) (mu : Nat) (mv : Nat) (u0 : Nat) (u1 : Nat) (iz : Nat) (mb : Nat) (th : Int32) (mn : Int32) (mpt : Int32) (mbg : Int32) (mwr : Int32) (mwk : Int32) (mlf : Int32) (men : Int32) (f : Nat → Int32) (G : Nat → Int32) (cx : Int) (p1 : Int32) (p2 : Int32) (sz : Nat) (hT : ty_W ct S ws) (h_mu : S mu = some (.inr (1, 42))) (h_mv : S mv = some (.inr (1, 42))) (h_u0 : S u0 = some (.inr (1, 42))) (h_u1 : S u1 = some (.inr (1, 42))) (hR : rf_R G cx f) (hc : 0 ≤ p1.toInt ∧ p1.toInt < (G 9).toInt) : Met l yX11_polarizes (ws_ yX11_polarizes cX11_polarizes 5 none) ({ frames := 1, cells := 0, slots := 0, locals := 23 } : Room) (va_Pc [.ref mo, .int p1, .int p2] (cmP D ct sz ([(mo, .inr (11, [.ref mw, .ref ma, .ref mf, .ref m0, .ref m1, .ref mu, .ref mv, .ref u0, .ref u1, .ref iz, .int th, .ref mb, .int mn, .int mpt, .int mbg, .int mwr, .int mwk, .int mlf, .int men])), (mw, .inl (ct 0, 958, .inl f))] ++ ws))) (va_Qv (fun (u : va_W × (Nat → Int32)) => match u with | (u9, f1) => ty_W ct S u9 ∧ rf_R G cx f1 ∧ rf_sm f f1 ∧ rf_of f1 p1 6 = rf_of f p1 6) (cmB D ([(mo, .inr (11, [.ref mw, .ref ma, .ref mf, .ref m0, .ref m1, .ref mu, .ref mv, .ref u0, .ref u1, .ref iz, .int th, .ref mb, .int mn, .int mpt, .int mbg, .int mwr, .int mwk, .int mlf, .int men])), (mw, .inl (ct 0, 958, .inl f))] ++ ws) sz (fun (u : va_W × (Nat → Int32)) => match u with | (u9, f1) => ([(mo, .inr (11, [.ref mw, .ref ma, .ref mf, .ref m0, .ref m1, .ref mu, .ref mv, .ref u0, .ref u1, .ref iz, .int th, .ref mb, .int mn, .int mpt, .int mbg, .int mwr, .int mwk, .int mlf, .int men])), (mw, .inl (ct 0, 958, .inl f1))] ++ u9))) (va_A ([(mo, .inr (11, [.ref mw, .ref ma, .ref mf, .ref m0, .ref m1, .ref mu, .ref mv, .ref u0, .ref u1, .ref iz, .int th, .ref mb, .int mn, .int mpt, .int mbg, .int mwr, .int mwk, .int mlf, .int men])), (mw, .inl (ct 0, 958, .inl f))] ++ ws) sz)) 0 0 (va_A ([(mo, .inr (11, [.ref mw, .ref ma, .ref mf, .ref m0, .ref m1, .ref mu, .ref mv, .ref u0, .ref u1, .ref iz, .int th, .ref mb, .int mn, .int mpt, .int mbg, .int mwr, .int mwk, .int mlf, .int men])), (mw, .inl (ct 0, 958, .inl f))] ++ ws) sz) := by
  refine Met.ofW (cc := cX11_polarizes) (maxL := 5) (ret := none) (by decide) rfl ?_
  intro p e s m args below meth c s₁ B hml hv
  obtain ⟨rfl, hsz, hP, hK, hD0, hX⟩ := hv
  have hx := B.exec
  have hb := B.bytes
  have hr := B.returns
  have hts := ws_all (atoms_spec (ws := ws_ yX11_polarizes cX11_polarizes 5 none) B.pre)
  have hown : s.vm.findClass RX11 = some m.cls := findClass_of_methodNamed B.named
  have hlocks := B.notSynchronized
  subst hsz
  have hD := hD0.self (sz := s.heap.size)
  generalize hAe : va_A ([(mo, .inr (11, [.ref mw, .ref ma, .ref mf, .ref m0, .ref m1, .ref mu, .ref mv, .ref u0, .ref u1, .ref iz, .int th, .ref mb, .int mn, .int mpt, .int mbg, .int mwr, .int mwk, .int mlf, .int men])), (mw, .inl (ct 0, 958, .inl f))] ++ ws) s.heap.size = A at hD hX ⊢
  have hA : ∀ q : Nat, s.heap.size ≤ q → A q := fun q h => by rw [← hAe]; exact Or.inr h
  have hS : va_S A s.heap s.heap [] := va_S.rf
  have hl := lv_entry ([.ref mo, .int p1, .int p2]) (n := 5) (Nat.le_of_ble_eq_true rfl)
  rw [lg_entry_eq]
  generalize (lg_sl ([.ref mo, .int p1, .int p2]) ++ List.replicate (5 - (lg_sl ([.ref mo, .int p1, .int p2])).length) Slot.unset).toArray = ls at hl ⊢
  have hl : lv_has ls 5 [(0, .ref mo), (1, .int p1), (2, .int p2)] := hl
  refine lv_iload_n hx hb dX11_polarizes_0 rfl (lv_at hl 2 rfl) ?_
  refine lv_aload_n hx hb dX11_polarizes_1 rfl (lv_at hl 0 rfl) ?_
  refine lv_iload_n hx hb dX11_polarizes_2 rfl (lv_at hl 1 rfl) ?_
  refine lv_bipush (v := 14) hx hb dX11_polarizes_3 (by decide) ?_
  refine ty_ki (wr := []) (wc := ([(mo, .inr (11, [.ref mw, .ref ma, .ref mf, .ref m0, .ref m1, .ref mu, .ref mv, .ref u0, .ref u1, .ref iz, .int th, .ref mb, .int mn, .int mpt, .int mbg, .int mwr, .int mwk, .int mlf, .int men])), (mw, .inl (ct 0, 958, .inl f))] ++ ws)) (va_runV (As := [.int p1, .int 14]) (rest := [.int p2]) ⟨hx, hb, hml, hown, hts⟩ (m_of_14 l D ct S ws mo mw ma mf m0 m1 mu mv u0 u1 iz mb th mn mpt mbg mwr mwk mlf men f G cx p1 _ hT h_mu h_mv h_u0 h_u1 hR hc) (cm_V 2 hts kc_X11_of ki_RX11 kl_RX11_209 kv_X11_of kx_X11_of kd_X11_of ⟨Nat.le_of_ble_eq_true rfl, Nat.le_of_ble_eq_true rfl⟩) (ty_preE (wr := []) (wc := ([(mo, .inr (11, [.ref mw, .ref ma, .ref mf, .ref m0, .ref m1, .ref mu, .ref mv, .ref u0, .ref u1, .ref iz, .int th, .ref mb, .int mn, .int mpt, .int mbg, .int mwr, .int mwk, .int mlf, .int men])), (mw, .inl (ct 0, 958, .inl f))] ++ ws)) (ci := 11) (q0 := 0) hP hK hD hS hA hX rfl rfl) rfl rfl hl.1 rfl (lv_room (Nat.le_of_ble_eq_true rfl)) dX11_polarizes_5 ⟨Nat.le_of_ble_eq_true rfl, Nat.le_of_ble_eq_true rfl⟩) hP hD hS hA (fun r_1 u H locs hw_2 hP hD hS => ?_)
  obtain ⟨ws_3, rfl⟩ : ∃ z, z = u := ⟨_, rfl⟩
  obtain ⟨hT, rfl⟩ := hw_2
  have hP : va_P D vwCl ([(mo, .inr (11, [.ref mw, .ref ma, .ref mf, .ref m0, .ref m1, .ref mu, .ref mv, .ref u0, .ref u1, .ref iz, .int th, .ref mb, .int mn, .int mpt, .int mbg, .int mwr, .int mwk, .int mlf, .int men])), (mw, .inl (ct 0, 958, .inl f))] ++ ws_3) H := hP
  have hD : va_D A ([(mo, .inr (11, [.ref mw, .ref ma, .ref mf, .ref m0, .ref m1, .ref mu, .ref mv, .ref u0, .ref u1, .ref iz, .int th, .ref mb, .int mn, .int mpt, .int mbg, .int mwr, .int mwk, .int mlf, .int men])), (mw, .inl (ct 0, 958, .inl f))] ++ ws_3) := hD
  refine lv_imul hx hb dX11_polarizes_8 ?_
  refine lv_topi (fun x_4 _ => ?_)
  refine lv_sipush (v := 1000) hx hb dX11_polarizes_9 (by decide) ?_
  refine lv_idiv hx hb dX11_polarizes_12 (by decide) ?_
  refine lv_topi (fun x_5 _ => ?_)
  refine lv_istore_n (lv' := [(3, .int x_5), (0, .ref mo), (1, .int p1), (2, .int p2)]) hx hb dX11_polarizes_13 rfl hl (by decide) rfl (fun ls hl => ?_)
  refine lv_iload_n hx hb dX11_polarizes_14 rfl (lv_at hl 0 rfl) ?_
  refine lv_aload_n hx hb dX11_polarizes_15 rfl (lv_at hl 1 rfl) ?_
  refine lv_iload_n hx hb dX11_polarizes_16 rfl (lv_at hl 2 rfl) ?_
  refine lv_bipush (v := 8) hx hb dX11_polarizes_17 (by decide) ?_
  refine ty_ki (wr := []) (wc := ([(mo, .inr (11, [.ref mw, .ref ma, .ref mf, .ref m0, .ref m1, .ref mu, .ref mv, .ref u0, .ref u1, .ref iz, .int th, .ref mb, .int mn, .int mpt, .int mbg, .int mwr, .int mwk, .int mlf, .int men])), (mw, .inl (ct 0, 958, .inl f))] ++ ws_3)) (va_runV (As := [.int p1, .int 8]) (rest := [.int x_5]) ⟨hx, hb, hml, hown, hts⟩ (m_of_8 l D ct S ws_3 mo mw ma mf m0 m1 mu mv u0 u1 iz mb th mn mpt mbg mwr mwk mlf men f G cx p1 _ hT h_mu h_mv h_u0 h_u1 hR hc) (cm_V 2 hts kc_X11_of ki_RX11 kl_RX11_209 kv_X11_of kx_X11_of kd_X11_of ⟨Nat.le_of_ble_eq_true rfl, Nat.le_of_ble_eq_true rfl⟩) (ty_preE (wr := []) (wc := ([(mo, .inr (11, [.ref mw, .ref ma, .ref mf, .ref m0, .ref m1, .ref mu, .ref mv, .ref u0, .ref u1, .ref iz, .int th, .ref mb, .int mn, .int mpt, .int mbg, .int mwr, .int mwk, .int mlf, .int men])), (mw, .inl (ct 0, 958, .inl f))] ++ ws_3)) (ci := 11) (q0 := 0) hP hK hD hS hA hX rfl rfl) rfl rfl hl.1 rfl (lv_room (Nat.le_of_ble_eq_true rfl)) dX11_polarizes_19 ⟨Nat.le_of_ble_eq_true rfl, Nat.le_of_ble_eq_true rfl⟩) hP hD hS hA (fun r_6 u H locs hw_7 hP hD hS => ?_)
  obtain ⟨ws_8, rfl⟩ : ∃ z, z = u := ⟨_, rfl⟩
  obtain ⟨hT, rfl⟩ := hw_7
  have hP : va_P D vwCl ([(mo, .inr (11, [.ref mw, .ref ma, .ref mf, .ref m0, .ref m1, .ref mu, .ref mv, .ref u0, .ref u1, .ref iz, .int th, .ref mb, .int mn, .int mpt, .int mbg, .int mwr, .int mwk, .int mlf, .int men])), (mw, .inl (ct 0, 958, .inl f))] ++ ws_8) H := hP
  have hD : va_D A ([(mo, .inr (11, [.ref mw, .ref ma, .ref mf, .ref m0, .ref m1, .ref mu, .ref mv, .ref u0, .ref u1, .ref iz, .int th, .ref mb, .int mn, .int mpt, .int mbg, .int mwr, .int mwk, .int mlf, .int men])), (mw, .inl (ct 0, 958, .inl f))] ++ ws_8) := hD
  refine lv_isub hx hb dX11_polarizes_22 ?_
  refine lv_topi (fun x_9 _ => ?_)
  refine lv_aload_n hx hb dX11_polarizes_23 rfl (lv_at hl 1 rfl) ?_
  refine lv_iload_n hx hb dX11_polarizes_24 rfl (lv_at hl 2 rfl) ?_
  refine lv_bipush (v := 15) hx hb dX11_polarizes_25 (by decide) ?_
  refine ty_ki (wr := []) (wc := ([(mo, .inr (11, [.ref mw, .ref ma, .ref mf, .ref m0, .ref m1, .ref mu, .ref mv, .ref u0, .ref u1, .ref iz, .int th, .ref mb, .int mn, .int mpt, .int mbg, .int mwr, .int mwk, .int mlf, .int men])), (mw, .inl (ct 0, 958, .inl f))] ++ ws_8)) (va_runV (As := [.int p1, .int 15]) (rest := [.int x_9]) ⟨hx, hb, hml, hown, hts⟩ (m_of_15 l D ct S ws_8 mo mw ma mf m0 m1 mu mv u0 u1 iz mb th mn mpt mbg mwr mwk mlf men f G cx p1 _ hT h_mu h_mv h_u0 h_u1 hR hc) (cm_V 2 hts kc_X11_of ki_RX11 kl_RX11_209 kv_X11_of kx_X11_of kd_X11_of ⟨Nat.le_of_ble_eq_true rfl, Nat.le_of_ble_eq_true rfl⟩) (ty_preE (wr := []) (wc := ([(mo, .inr (11, [.ref mw, .ref ma, .ref mf, .ref m0, .ref m1, .ref mu, .ref mv, .ref u0, .ref u1, .ref iz, .int th, .ref mb, .int mn, .int mpt, .int mbg, .int mwr, .int mwk, .int mlf, .int men])), (mw, .inl (ct 0, 958, .inl f))] ++ ws_8)) (ci := 11) (q0 := 0) hP hK hD hS hA hX rfl rfl) rfl rfl hl.1 rfl (lv_room (Nat.le_of_ble_eq_true rfl)) dX11_polarizes_27 ⟨Nat.le_of_ble_eq_true rfl, Nat.le_of_ble_eq_true rfl⟩) hP hD hS hA (fun r_10 u H locs hw_11 hP hD hS => ?_)
  obtain ⟨ws_12, rfl⟩ : ∃ z, z = u := ⟨_, rfl⟩
  obtain ⟨hT, rfl⟩ := hw_11
  have hP : va_P D vwCl ([(mo, .inr (11, [.ref mw, .ref ma, .ref mf, .ref m0, .ref m1, .ref mu, .ref mv, .ref u0, .ref u1, .ref iz, .int th, .ref mb, .int mn, .int mpt, .int mbg, .int mwr, .int mwk, .int mlf, .int men])), (mw, .inl (ct 0, 958, .inl f))] ++ ws_12) H := hP
  have hD : va_D A ([(mo, .inr (11, [.ref mw, .ref ma, .ref mf, .ref m0, .ref m1, .ref mu, .ref mv, .ref u0, .ref u1, .ref iz, .int th, .ref mb, .int mn, .int mpt, .int mbg, .int mwr, .int mwk, .int mlf, .int men])), (mw, .inl (ct 0, 958, .inl f))] ++ ws_12) := hD
  refine lv_idiv hx hb dX11_polarizes_30 (rf_nz (rf_stat hR hc).2.2.1) ?_
  refine lv_topi (fun x_13 _ => ?_)
  refine lv_istore (lv' := [(4, .int x_13), (3, .int x_5), (0, .ref mo), (1, .int p1), (2, .int p2)]) hx hb dX11_polarizes_31 hl (by decide) rfl (fun ls hl => ?_)
  refine lv_iload hx hb dX11_polarizes_33 (lv_at hl 0 rfl) ?_
  refine lv_if_ne (tgt := 67) hx hb dX11_polarizes_35 (by decide) (fun hc_14 => ?_) (fun hc_14 => ?_)
  · refine lv_aload_n hx hb dX11_polarizes_67 rfl (lv_at hl 2 rfl) ?_
    refine lv_iload_n hx hb dX11_polarizes_68 rfl (lv_at hl 3 rfl) ?_
    refine lv_bipush (v := 8) hx hb dX11_polarizes_69 (by decide) ?_
    refine lv_aload_n hx hb dX11_polarizes_71 rfl (lv_at hl 2 rfl) ?_
    refine lv_iload_n hx hb dX11_polarizes_72 rfl (lv_at hl 3 rfl) ?_
    refine lv_bipush (v := 8) hx hb dX11_polarizes_73 (by decide) ?_
    refine ty_ki (wr := []) (wc := ([(mo, .inr (11, [.ref mw, .ref ma, .ref mf, .ref m0, .ref m1, .ref mu, .ref mv, .ref u0, .ref u1, .ref iz, .int th, .ref mb, .int mn, .int mpt, .int mbg, .int mwr, .int mwk, .int mlf, .int men])), (mw, .inl (ct 0, 958, .inl f))] ++ ws_12)) (va_runV (As := [.int p1, .int 8]) (rest := [.int 8, .int p1, .ref mo]) ⟨hx, hb, hml, hown, hts⟩ (m_of_8 l D ct S ws_12 mo mw ma mf m0 m1 mu mv u0 u1 iz mb th mn mpt mbg mwr mwk mlf men f G cx p1 _ hT h_mu h_mv h_u0 h_u1 hR hc) (cm_V 2 hts kc_X11_of ki_RX11 kl_RX11_209 kv_X11_of kx_X11_of kd_X11_of ⟨Nat.le_of_ble_eq_true rfl, Nat.le_of_ble_eq_true rfl⟩) (ty_preE (wr := []) (wc := ([(mo, .inr (11, [.ref mw, .ref ma, .ref mf, .ref m0, .ref m1, .ref mu, .ref mv, .ref u0, .ref u1, .ref iz, .int th, .ref mb, .int mn, .int mpt, .int mbg, .int mwr, .int mwk, .int mlf, .int men])), (mw, .inl (ct 0, 958, .inl f))] ++ ws_12)) (ci := 11) (q0 := 0) hP hK hD hS hA hX rfl rfl) rfl rfl hl.1 rfl (lv_room (Nat.le_of_ble_eq_true rfl)) dX11_polarizes_75 ⟨Nat.le_of_ble_eq_true rfl, Nat.le_of_ble_eq_true rfl⟩) hP hD hS hA (fun r_15 u H locs hw_16 hP hD hS => ?_)
    obtain ⟨ws_17, rfl⟩ : ∃ z, z = u := ⟨_, rfl⟩
    obtain ⟨hT, rfl⟩ := hw_16
    have hP : va_P D vwCl ([(mo, .inr (11, [.ref mw, .ref ma, .ref mf, .ref m0, .ref m1, .ref mu, .ref mv, .ref u0, .ref u1, .ref iz, .int th, .ref mb, .int mn, .int mpt, .int mbg, .int mwr, .int mwk, .int mlf, .int men])), (mw, .inl (ct 0, 958, .inl f))] ++ ws_17) H := hP
    have hD : va_D A ([(mo, .inr (11, [.ref mw, .ref ma, .ref mf, .ref m0, .ref m1, .ref mu, .ref mv, .ref u0, .ref u1, .ref iz, .int th, .ref mb, .int mn, .int mpt, .int mbg, .int mwr, .int mwk, .int mlf, .int men])), (mw, .inl (ct 0, 958, .inl f))] ++ ws_17) := hD
    refine lv_iload hx hb dX11_polarizes_78 (lv_at hl 0 rfl) ?_
    refine lv_iadd hx hb dX11_polarizes_80 ?_
    refine lv_topi (fun x_18 _ => ?_)
    refine ty_kv (wr := []) (wc := ([(mo, .inr (11, [.ref mw, .ref ma, .ref mf, .ref m0, .ref m1, .ref mu, .ref mv, .ref u0, .ref u1, .ref iz, .int th, .ref mb, .int mn, .int mpt, .int mbg, .int mwr, .int mwk, .int mlf, .int men])), (mw, .inl (ct 0, 958, .inl f))] ++ ws_17)) (va_runV (As := [.int p1, .int 8, .int x_18]) (rest := []) ⟨hx, hb, hml, hown, hts⟩ (m_put_8 l D ct S ws_17 mo mw ma mf m0 m1 mu mv u0 u1 iz mb th mn mpt mbg mwr mwk mlf men f G cx p1 x_18 _ hT h_mu h_mv h_u0 h_u1 hR hc) (cm_V 3 hts kc_X11_put ki_RX11 kl_RX11_234 kv_X11_put kx_X11_put kd_X11_put ⟨Nat.le_of_ble_eq_true rfl, Nat.le_of_ble_eq_true rfl⟩) (ty_preE (wr := []) (wc := ([(mo, .inr (11, [.ref mw, .ref ma, .ref mf, .ref m0, .ref m1, .ref mu, .ref mv, .ref u0, .ref u1, .ref iz, .int th, .ref mb, .int mn, .int mpt, .int mbg, .int mwr, .int mwk, .int mlf, .int men])), (mw, .inl (ct 0, 958, .inl f))] ++ ws_17)) (ci := 11) (q0 := 0) hP hK hD hS hA hX rfl rfl) rfl rfl hl.1 rfl (lv_room (Nat.le_of_ble_eq_true rfl)) dX11_polarizes_81 ⟨Nat.le_of_ble_eq_true rfl, Nat.le_of_ble_eq_true rfl⟩) hP hD hS hA (fun u H locs hw_20 hP hD hS => ?_)
    obtain ⟨ws_21, f1_22⟩ := u
    obtain ⟨hT, hp_23⟩ := hw_20
    have hp_23 : rf_R G cx f1_22 ∧ rf_sm f f1_22 ∧ f1_22 = upd f (244 + 54 * p1.toInt.toNat + 8) x_18 := hp_23
    have hR_24 := hp_23.1
    have hM_25 := rf_smt (rf_smr f) hp_23.2.1
    have hP : va_P D vwCl ([(mo, .inr (11, [.ref mw, .ref ma, .ref mf, .ref m0, .ref m1, .ref mu, .ref mv, .ref u0, .ref u1, .ref iz, .int th, .ref mb, .int mn, .int mpt, .int mbg, .int mwr, .int mwk, .int mlf, .int men])), (mw, .inl (ct 0, 958, .inl f1_22))] ++ ws_21) H := hP
    have hD : va_D A ([(mo, .inr (11, [.ref mw, .ref ma, .ref mf, .ref m0, .ref m1, .ref mu, .ref mv, .ref u0, .ref u1, .ref iz, .int th, .ref mb, .int mn, .int mpt, .int mbg, .int mwr, .int mwk, .int mlf, .int men])), (mw, .inl (ct 0, 958, .inl f1_22))] ++ ws_21) := hD
    exact W.vret hx hb hr (fun t ht hW => ⟨⟨(ws_21, f1_22), rfl, ⟨hT, ⟨hR_24, hM_25, (by rw [hp_23.2.2]; exact rf_ne (by decide))⟩⟩, by rw [ht]; exact hP, by rw [hAe]; exact hD⟩, hS.F ht⟩) hS.2.2 dX11_polarizes_84
  · refine lv_iload_n hx hb dX11_polarizes_38 rfl (lv_at hl 1 rfl) ?_
    refine lv_aload_n hx hb dX11_polarizes_39 rfl (lv_at hl 2 rfl) ?_
    refine lv_iload_n hx hb dX11_polarizes_40 rfl (lv_at hl 3 rfl) ?_
    refine lv_bipush (v := 8) hx hb dX11_polarizes_41 (by decide) ?_
    refine ty_ki (wr := []) (wc := ([(mo, .inr (11, [.ref mw, .ref ma, .ref mf, .ref m0, .ref m1, .ref mu, .ref mv, .ref u0, .ref u1, .ref iz, .int th, .ref mb, .int mn, .int mpt, .int mbg, .int mwr, .int mwk, .int mlf, .int men])), (mw, .inl (ct 0, 958, .inl f))] ++ ws_12)) (va_runV (As := [.int p1, .int 8]) (rest := [.int x_5]) ⟨hx, hb, hml, hown, hts⟩ (m_of_8 l D ct S ws_12 mo mw ma mf m0 m1 mu mv u0 u1 iz mb th mn mpt mbg mwr mwk mlf men f G cx p1 _ hT h_mu h_mv h_u0 h_u1 hR hc) (cm_V 2 hts kc_X11_of ki_RX11 kl_RX11_209 kv_X11_of kx_X11_of kd_X11_of ⟨Nat.le_of_ble_eq_true rfl, Nat.le_of_ble_eq_true rfl⟩) (ty_preE (wr := []) (wc := ([(mo, .inr (11, [.ref mw, .ref ma, .ref mf, .ref m0, .ref m1, .ref mu, .ref mv, .ref u0, .ref u1, .ref iz, .int th, .ref mb, .int mn, .int mpt, .int mbg, .int mwr, .int mwk, .int mlf, .int men])), (mw, .inl (ct 0, 958, .inl f))] ++ ws_12)) (ci := 11) (q0 := 0) hP hK hD hS hA hX rfl rfl) rfl rfl hl.1 rfl (lv_room (Nat.le_of_ble_eq_true rfl)) dX11_polarizes_43 ⟨Nat.le_of_ble_eq_true rfl, Nat.le_of_ble_eq_true rfl⟩) hP hD hS hA (fun r_26 u H locs hw_27 hP hD hS => ?_)
    obtain ⟨ws_28, rfl⟩ : ∃ z, z = u := ⟨_, rfl⟩
    obtain ⟨hT, rfl⟩ := hw_27
    have hP : va_P D vwCl ([(mo, .inr (11, [.ref mw, .ref ma, .ref mf, .ref m0, .ref m1, .ref mu, .ref mv, .ref u0, .ref u1, .ref iz, .int th, .ref mb, .int mn, .int mpt, .int mbg, .int mwr, .int mwk, .int mlf, .int men])), (mw, .inl (ct 0, 958, .inl f))] ++ ws_28) H := hP
    have hD : va_D A ([(mo, .inr (11, [.ref mw, .ref ma, .ref mf, .ref m0, .ref m1, .ref mu, .ref mv, .ref u0, .ref u1, .ref iz, .int th, .ref mb, .int mn, .int mpt, .int mbg, .int mwr, .int mwk, .int mlf, .int men])), (mw, .inl (ct 0, 958, .inl f))] ++ ws_28) := hD
    refine lv_icmp_eq (tgt := 67) hx hb dX11_polarizes_46 (by decide) (fun hc_29 => ?_) (fun hc_29 => ?_)
    · refine lv_aload_n hx hb dX11_polarizes_67 rfl (lv_at hl 2 rfl) ?_
      refine lv_iload_n hx hb dX11_polarizes_68 rfl (lv_at hl 3 rfl) ?_
      refine lv_bipush (v := 8) hx hb dX11_polarizes_69 (by decide) ?_
      refine lv_aload_n hx hb dX11_polarizes_71 rfl (lv_at hl 2 rfl) ?_
      refine lv_iload_n hx hb dX11_polarizes_72 rfl (lv_at hl 3 rfl) ?_
      refine lv_bipush (v := 8) hx hb dX11_polarizes_73 (by decide) ?_
      refine ty_ki (wr := []) (wc := ([(mo, .inr (11, [.ref mw, .ref ma, .ref mf, .ref m0, .ref m1, .ref mu, .ref mv, .ref u0, .ref u1, .ref iz, .int th, .ref mb, .int mn, .int mpt, .int mbg, .int mwr, .int mwk, .int mlf, .int men])), (mw, .inl (ct 0, 958, .inl f))] ++ ws_28)) (va_runV (As := [.int p1, .int 8]) (rest := [.int 8, .int p1, .ref mo]) ⟨hx, hb, hml, hown, hts⟩ (m_of_8 l D ct S ws_28 mo mw ma mf m0 m1 mu mv u0 u1 iz mb th mn mpt mbg mwr mwk mlf men f G cx p1 _ hT h_mu h_mv h_u0 h_u1 hR hc) (cm_V 2 hts kc_X11_of ki_RX11 kl_RX11_209 kv_X11_of kx_X11_of kd_X11_of ⟨Nat.le_of_ble_eq_true rfl, Nat.le_of_ble_eq_true rfl⟩) (ty_preE (wr := []) (wc := ([(mo, .inr (11, [.ref mw, .ref ma, .ref mf, .ref m0, .ref m1, .ref mu, .ref mv, .ref u0, .ref u1, .ref iz, .int th, .ref mb, .int mn, .int mpt, .int mbg, .int mwr, .int mwk, .int mlf, .int men])), (mw, .inl (ct 0, 958, .inl f))] ++ ws_28)) (ci := 11) (q0 := 0) hP hK hD hS hA hX rfl rfl) rfl rfl hl.1 rfl (lv_room (Nat.le_of_ble_eq_true rfl)) dX11_polarizes_75 ⟨Nat.le_of_ble_eq_true rfl, Nat.le_of_ble_eq_true rfl⟩) hP hD hS hA (fun r_30 u H locs hw_31 hP hD hS => ?_)
      obtain ⟨ws_32, rfl⟩ : ∃ z, z = u := ⟨_, rfl⟩
      obtain ⟨hT, rfl⟩ := hw_31
      have hP : va_P D vwCl ([(mo, .inr (11, [.ref mw, .ref ma, .ref mf, .ref m0, .ref m1, .ref mu, .ref mv, .ref u0, .ref u1, .ref iz, .int th, .ref mb, .int mn, .int mpt, .int mbg, .int mwr, .int mwk, .int mlf, .int men])), (mw, .inl (ct 0, 958, .inl f))] ++ ws_32) H := hP
      have hD : va_D A ([(mo, .inr (11, [.ref mw, .ref ma, .ref mf, .ref m0, .ref m1, .ref mu, .ref mv, .ref u0, .ref u1, .ref iz, .int th, .ref mb, .int mn, .int mpt, .int mbg, .int mwr, .int mwk, .int mlf, .int men])), (mw, .inl (ct 0, 958, .inl f))] ++ ws_32) := hD
      refine lv_iload hx hb dX11_polarizes_78 (lv_at hl 0 rfl) ?_
      refine lv_iadd hx hb dX11_polarizes_80 ?_
      refine lv_topi (fun x_33 _ => ?_)
      refine ty_kv (wr := []) (wc := ([(mo, .inr (11, [.ref mw, .ref ma, .ref mf, .ref m0, .ref m1, .ref mu, .ref mv, .ref u0, .ref u1, .ref iz, .int th, .ref mb, .int mn, .int mpt, .int mbg, .int mwr, .int mwk, .int mlf, .int men])), (mw, .inl (ct 0, 958, .inl f))] ++ ws_32)) (va_runV (As := [.int p1, .int 8, .int x_33]) (rest := []) ⟨hx, hb, hml, hown, hts⟩ (m_put_8 l D ct S ws_32 mo mw ma mf m0 m1 mu mv u0 u1 iz mb th mn mpt mbg mwr mwk mlf men f G cx p1 x_33 _ hT h_mu h_mv h_u0 h_u1 hR hc) (cm_V 3 hts kc_X11_put ki_RX11 kl_RX11_234 kv_X11_put kx_X11_put kd_X11_put ⟨Nat.le_of_ble_eq_true rfl, Nat.le_of_ble_eq_true rfl⟩) (ty_preE (wr := []) (wc := ([(mo, .inr (11, [.ref mw, .ref ma, .ref mf, .ref m0, .ref m1, .ref mu, .ref mv, .ref u0, .ref u1, .ref iz, .int th, .ref mb, .int mn, .int mpt, .int mbg, .int mwr, .int mwk, .int mlf, .int men])), (mw, .inl (ct 0, 958, .inl f))] ++ ws_32)) (ci := 11) (q0 := 0) hP hK hD hS hA hX rfl rfl) rfl rfl hl.1 rfl (lv_room (Nat.le_of_ble_eq_true rfl)) dX11_polarizes_81 ⟨Nat.le_of_ble_eq_true rfl, Nat.le_of_ble_eq_true rfl⟩) hP hD hS hA (fun u H locs hw_35 hP hD hS => ?_)
      obtain ⟨ws_36, f1_37⟩ := u
      obtain ⟨hT, hp_38⟩ := hw_35
      have hp_38 : rf_R G cx f1_37 ∧ rf_sm f f1_37 ∧ f1_37 = upd f (244 + 54 * p1.toInt.toNat + 8) x_33 := hp_38
      have hR_39 := hp_38.1
      have hM_40 := rf_smt (rf_smr f) hp_38.2.1
      have hP : va_P D vwCl ([(mo, .inr (11, [.ref mw, .ref ma, .ref mf, .ref m0, .ref m1, .ref mu, .ref mv, .ref u0, .ref u1, .ref iz, .int th, .ref mb, .int mn, .int mpt, .int mbg, .int mwr, .int mwk, .int mlf, .int men])), (mw, .inl (ct 0, 958, .inl f1_37))] ++ ws_36) H := hP
      have hD : va_D A ([(mo, .inr (11, [.ref mw, .ref ma, .ref mf, .ref m0, .ref m1, .ref mu, .ref mv, .ref u0, .ref u1, .ref iz, .int th, .ref mb, .int mn, .int mpt, .int mbg, .int mwr, .int mwk, .int mlf, .int men])), (mw, .inl (ct 0, 958, .inl f1_37))] ++ ws_36) := hD
      exact W.vret hx hb hr (fun t ht hW => ⟨⟨(ws_36, f1_37), rfl, ⟨hT, ⟨hR_39, hM_40, (by rw [hp_38.2.2]; exact rf_ne (by decide))⟩⟩, by rw [ht]; exact hP, by rw [hAe]; exact hD⟩, hS.F ht⟩) hS.2.2 dX11_polarizes_84
    · refine lv_iload_n hx hb dX11_polarizes_49 rfl (lv_at hl 1 rfl) ?_
      refine lv_aload_n hx hb dX11_polarizes_50 rfl (lv_at hl 2 rfl) ?_
      refine lv_iload_n hx hb dX11_polarizes_51 rfl (lv_at hl 3 rfl) ?_
      refine lv_bipush (v := 8) hx hb dX11_polarizes_52 (by decide) ?_
      refine ty_ki (wr := []) (wc := ([(mo, .inr (11, [.ref mw, .ref ma, .ref mf, .ref m0, .ref m1, .ref mu, .ref mv, .ref u0, .ref u1, .ref iz, .int th, .ref mb, .int mn, .int mpt, .int mbg, .int mwr, .int mwk, .int mlf, .int men])), (mw, .inl (ct 0, 958, .inl f))] ++ ws_28)) (va_runV (As := [.int p1, .int 8]) (rest := [.int x_5]) ⟨hx, hb, hml, hown, hts⟩ (m_of_8 l D ct S ws_28 mo mw ma mf m0 m1 mu mv u0 u1 iz mb th mn mpt mbg mwr mwk mlf men f G cx p1 _ hT h_mu h_mv h_u0 h_u1 hR hc) (cm_V 2 hts kc_X11_of ki_RX11 kl_RX11_209 kv_X11_of kx_X11_of kd_X11_of ⟨Nat.le_of_ble_eq_true rfl, Nat.le_of_ble_eq_true rfl⟩) (ty_preE (wr := []) (wc := ([(mo, .inr (11, [.ref mw, .ref ma, .ref mf, .ref m0, .ref m1, .ref mu, .ref mv, .ref u0, .ref u1, .ref iz, .int th, .ref mb, .int mn, .int mpt, .int mbg, .int mwr, .int mwk, .int mlf, .int men])), (mw, .inl (ct 0, 958, .inl f))] ++ ws_28)) (ci := 11) (q0 := 0) hP hK hD hS hA hX rfl rfl) rfl rfl hl.1 rfl (lv_room (Nat.le_of_ble_eq_true rfl)) dX11_polarizes_54 ⟨Nat.le_of_ble_eq_true rfl, Nat.le_of_ble_eq_true rfl⟩) hP hD hS hA (fun r_41 u H locs hw_42 hP hD hS => ?_)
      obtain ⟨ws_43, rfl⟩ : ∃ z, z = u := ⟨_, rfl⟩
      obtain ⟨hT, rfl⟩ := hw_42
      have hP : va_P D vwCl ([(mo, .inr (11, [.ref mw, .ref ma, .ref mf, .ref m0, .ref m1, .ref mu, .ref mv, .ref u0, .ref u1, .ref iz, .int th, .ref mb, .int mn, .int mpt, .int mbg, .int mwr, .int mwk, .int mlf, .int men])), (mw, .inl (ct 0, 958, .inl f))] ++ ws_43) H := hP
      have hD : va_D A ([(mo, .inr (11, [.ref mw, .ref ma, .ref mf, .ref m0, .ref m1, .ref mu, .ref mv, .ref u0, .ref u1, .ref iz, .int th, .ref mb, .int mn, .int mpt, .int mbg, .int mwr, .int mwk, .int mlf, .int men])), (mw, .inl (ct 0, 958, .inl f))] ++ ws_43) := hD
      refine lv_icmp_le (tgt := 64) hx hb dX11_polarizes_57 (by decide) (fun hc_44 => ?_) (fun hc_44 => ?_)
      · refine lv_iconst (v := (-1)) hx hb dX11_polarizes_64 (by decide) ?_
        refine lv_istore (lv' := [(4, .int (-1)), (3, .int x_5), (0, .ref mo), (1, .int p1), (2, .int p2)]) hx hb dX11_polarizes_65 hl (by decide) rfl (fun ls hl => ?_)
        refine lv_aload_n hx hb dX11_polarizes_67 rfl (lv_at hl 2 rfl) ?_
        refine lv_iload_n hx hb dX11_polarizes_68 rfl (lv_at hl 3 rfl) ?_
        refine lv_bipush (v := 8) hx hb dX11_polarizes_69 (by decide) ?_
        refine lv_aload_n hx hb dX11_polarizes_71 rfl (lv_at hl 2 rfl) ?_
        refine lv_iload_n hx hb dX11_polarizes_72 rfl (lv_at hl 3 rfl) ?_
        refine lv_bipush (v := 8) hx hb dX11_polarizes_73 (by decide) ?_
        refine ty_ki (wr := []) (wc := ([(mo, .inr (11, [.ref mw, .ref ma, .ref mf, .ref m0, .ref m1, .ref mu, .ref mv, .ref u0, .ref u1, .ref iz, .int th, .ref mb, .int mn, .int mpt, .int mbg, .int mwr, .int mwk, .int mlf, .int men])), (mw, .inl (ct 0, 958, .inl f))] ++ ws_43)) (va_runV (As := [.int p1, .int 8]) (rest := [.int 8, .int p1, .ref mo]) ⟨hx, hb, hml, hown, hts⟩ (m_of_8 l D ct S ws_43 mo mw ma mf m0 m1 mu mv u0 u1 iz mb th mn mpt mbg mwr mwk mlf men f G cx p1 _ hT h_mu h_mv h_u0 h_u1 hR hc) (cm_V 2 hts kc_X11_of ki_RX11 kl_RX11_209 kv_X11_of kx_X11_of kd_X11_of ⟨Nat.le_of_ble_eq_true rfl, Nat.le_of_ble_eq_true rfl⟩) (ty_preE (wr := []) (wc := ([(mo, .inr (11, [.ref mw, .ref ma, .ref mf, .ref m0, .ref m1, .ref mu, .ref mv, .ref u0, .ref u1, .ref iz, .int th, .ref mb, .int mn, .int mpt, .int mbg, .int mwr, .int mwk, .int mlf, .int men])), (mw, .inl (ct 0, 958, .inl f))] ++ ws_43)) (ci := 11) (q0 := 0) hP hK hD hS hA hX rfl rfl) rfl rfl hl.1 rfl (lv_room (Nat.le_of_ble_eq_true rfl)) dX11_polarizes_75 ⟨Nat.le_of_ble_eq_true rfl, Nat.le_of_ble_eq_true rfl⟩) hP hD hS hA (fun r_45 u H locs hw_46 hP hD hS => ?_)
        obtain ⟨ws_47, rfl⟩ : ∃ z, z = u := ⟨_, rfl⟩
        obtain ⟨hT, rfl⟩ := hw_46
        have hP : va_P D vwCl ([(mo, .inr (11, [.ref mw, .ref ma, .ref mf, .ref m0, .ref m1, .ref mu, .ref mv, .ref u0, .ref u1, .ref iz, .int th, .ref mb, .int mn, .int mpt, .int mbg, .int mwr, .int mwk, .int mlf, .int men])), (mw, .inl (ct 0, 958, .inl f))] ++ ws_47) H := hP
        have hD : va_D A ([(mo, .inr (11, [.ref mw, .ref ma, .ref mf, .ref m0, .ref m1, .ref mu, .ref mv, .ref u0, .ref u1, .ref iz, .int th, .ref mb, .int mn, .int mpt, .int mbg, .int mwr, .int mwk, .int mlf, .int men])), (mw, .inl (ct 0, 958, .inl f))] ++ ws_47) := hD
        refine lv_iload hx hb dX11_polarizes_78 (lv_at hl 0 rfl) ?_
        refine lv_iadd hx hb dX11_polarizes_80 ?_
        refine lv_topi (fun x_48 _ => ?_)
        refine ty_kv (wr := []) (wc := ([(mo, .inr (11, [.ref mw, .ref ma, .ref mf, .ref m0, .ref m1, .ref mu, .ref mv, .ref u0, .ref u1, .ref iz, .int th, .ref mb, .int mn, .int mpt, .int mbg, .int mwr, .int mwk, .int mlf, .int men])), (mw, .inl (ct 0, 958, .inl f))] ++ ws_47)) (va_runV (As := [.int p1, .int 8, .int x_48]) (rest := []) ⟨hx, hb, hml, hown, hts⟩ (m_put_8 l D ct S ws_47 mo mw ma mf m0 m1 mu mv u0 u1 iz mb th mn mpt mbg mwr mwk mlf men f G cx p1 x_48 _ hT h_mu h_mv h_u0 h_u1 hR hc) (cm_V 3 hts kc_X11_put ki_RX11 kl_RX11_234 kv_X11_put kx_X11_put kd_X11_put ⟨Nat.le_of_ble_eq_true rfl, Nat.le_of_ble_eq_true rfl⟩) (ty_preE (wr := []) (wc := ([(mo, .inr (11, [.ref mw, .ref ma, .ref mf, .ref m0, .ref m1, .ref mu, .ref mv, .ref u0, .ref u1, .ref iz, .int th, .ref mb, .int mn, .int mpt, .int mbg, .int mwr, .int mwk, .int mlf, .int men])), (mw, .inl (ct 0, 958, .inl f))] ++ ws_47)) (ci := 11) (q0 := 0) hP hK hD hS hA hX rfl rfl) rfl rfl hl.1 rfl (lv_room (Nat.le_of_ble_eq_true rfl)) dX11_polarizes_81 ⟨Nat.le_of_ble_eq_true rfl, Nat.le_of_ble_eq_true rfl⟩) hP hD hS hA (fun u H locs hw_50 hP hD hS => ?_)
        obtain ⟨ws_51, f1_52⟩ := u
        obtain ⟨hT, hp_53⟩ := hw_50
        have hp_53 : rf_R G cx f1_52 ∧ rf_sm f f1_52 ∧ f1_52 = upd f (244 + 54 * p1.toInt.toNat + 8) x_48 := hp_53
        have hR_54 := hp_53.1
        have hM_55 := rf_smt (rf_smr f) hp_53.2.1
        have hP : va_P D vwCl ([(mo, .inr (11, [.ref mw, .ref ma, .ref mf, .ref m0, .ref m1, .ref mu, .ref mv, .ref u0, .ref u1, .ref iz, .int th, .ref mb, .int mn, .int mpt, .int mbg, .int mwr, .int mwk, .int mlf, .int men])), (mw, .inl (ct 0, 958, .inl f1_52))] ++ ws_51) H := hP
        have hD : va_D A ([(mo, .inr (11, [.ref mw, .ref ma, .ref mf, .ref m0, .ref m1, .ref mu, .ref mv, .ref u0, .ref u1, .ref iz, .int th, .ref mb, .int mn, .int mpt, .int mbg, .int mwr, .int mwk, .int mlf, .int men])), (mw, .inl (ct 0, 958, .inl f1_52))] ++ ws_51) := hD
        exact W.vret hx hb hr (fun t ht hW => ⟨⟨(ws_51, f1_52), rfl, ⟨hT, ⟨hR_54, hM_55, (by rw [hp_53.2.2]; exact rf_ne (by decide))⟩⟩, by rw [ht]; exact hP, by rw [hAe]; exact hD⟩, hS.F ht⟩) hS.2.2 dX11_polarizes_84
      · refine lv_iconst (v := 1) hx hb dX11_polarizes_60 (by decide) ?_
        refine lv_goto (tgt := 65) hx hb dX11_polarizes_61 (by decide) ?_
        refine lv_istore (lv' := [(4, .int 1), (3, .int x_5), (0, .ref mo), (1, .int p1), (2, .int p2)]) hx hb dX11_polarizes_65 hl (by decide) rfl (fun ls hl => ?_)
        refine lv_aload_n hx hb dX11_polarizes_67 rfl (lv_at hl 2 rfl) ?_
        refine lv_iload_n hx hb dX11_polarizes_68 rfl (lv_at hl 3 rfl) ?_
        refine lv_bipush (v := 8) hx hb dX11_polarizes_69 (by decide) ?_
        refine lv_aload_n hx hb dX11_polarizes_71 rfl (lv_at hl 2 rfl) ?_
        refine lv_iload_n hx hb dX11_polarizes_72 rfl (lv_at hl 3 rfl) ?_
        refine lv_bipush (v := 8) hx hb dX11_polarizes_73 (by decide) ?_
        refine ty_ki (wr := []) (wc := ([(mo, .inr (11, [.ref mw, .ref ma, .ref mf, .ref m0, .ref m1, .ref mu, .ref mv, .ref u0, .ref u1, .ref iz, .int th, .ref mb, .int mn, .int mpt, .int mbg, .int mwr, .int mwk, .int mlf, .int men])), (mw, .inl (ct 0, 958, .inl f))] ++ ws_43)) (va_runV (As := [.int p1, .int 8]) (rest := [.int 8, .int p1, .ref mo]) ⟨hx, hb, hml, hown, hts⟩ (m_of_8 l D ct S ws_43 mo mw ma mf m0 m1 mu mv u0 u1 iz mb th mn mpt mbg mwr mwk mlf men f G cx p1 _ hT h_mu h_mv h_u0 h_u1 hR hc) (cm_V 2 hts kc_X11_of ki_RX11 kl_RX11_209 kv_X11_of kx_X11_of kd_X11_of ⟨Nat.le_of_ble_eq_true rfl, Nat.le_of_ble_eq_true rfl⟩) (ty_preE (wr := []) (wc := ([(mo, .inr (11, [.ref mw, .ref ma, .ref mf, .ref m0, .ref m1, .ref mu, .ref mv, .ref u0, .ref u1, .ref iz, .int th, .ref mb, .int mn, .int mpt, .int mbg, .int mwr, .int mwk, .int mlf, .int men])), (mw, .inl (ct 0, 958, .inl f))] ++ ws_43)) (ci := 11) (q0 := 0) hP hK hD hS hA hX rfl rfl) rfl rfl hl.1 rfl (lv_room (Nat.le_of_ble_eq_true rfl)) dX11_polarizes_75 ⟨Nat.le_of_ble_eq_true rfl, Nat.le_of_ble_eq_true rfl⟩) hP hD hS hA (fun r_56 u H locs hw_57 hP hD hS => ?_)
        obtain ⟨ws_58, rfl⟩ : ∃ z, z = u := ⟨_, rfl⟩
        obtain ⟨hT, rfl⟩ := hw_57
        have hP : va_P D vwCl ([(mo, .inr (11, [.ref mw, .ref ma, .ref mf, .ref m0, .ref m1, .ref mu, .ref mv, .ref u0, .ref u1, .ref iz, .int th, .ref mb, .int mn, .int mpt, .int mbg, .int mwr, .int mwk, .int mlf, .int men])), (mw, .inl (ct 0, 958, .inl f))] ++ ws_58) H := hP
        have hD : va_D A ([(mo, .inr (11, [.ref mw, .ref ma, .ref mf, .ref m0, .ref m1, .ref mu, .ref mv, .ref u0, .ref u1, .ref iz, .int th, .ref mb, .int mn, .int mpt, .int mbg, .int mwr, .int mwk, .int mlf, .int men])), (mw, .inl (ct 0, 958, .inl f))] ++ ws_58) := hD
        refine lv_iload hx hb dX11_polarizes_78 (lv_at hl 0 rfl) ?_
        refine lv_iadd hx hb dX11_polarizes_80 ?_
        refine lv_topi (fun x_59 _ => ?_)
        refine ty_kv (wr := []) (wc := ([(mo, .inr (11, [.ref mw, .ref ma, .ref mf, .ref m0, .ref m1, .ref mu, .ref mv, .ref u0, .ref u1, .ref iz, .int th, .ref mb, .int mn, .int mpt, .int mbg, .int mwr, .int mwk, .int mlf, .int men])), (mw, .inl (ct 0, 958, .inl f))] ++ ws_58)) (va_runV (As := [.int p1, .int 8, .int x_59]) (rest := []) ⟨hx, hb, hml, hown, hts⟩ (m_put_8 l D ct S ws_58 mo mw ma mf m0 m1 mu mv u0 u1 iz mb th mn mpt mbg mwr mwk mlf men f G cx p1 x_59 _ hT h_mu h_mv h_u0 h_u1 hR hc) (cm_V 3 hts kc_X11_put ki_RX11 kl_RX11_234 kv_X11_put kx_X11_put kd_X11_put ⟨Nat.le_of_ble_eq_true rfl, Nat.le_of_ble_eq_true rfl⟩) (ty_preE (wr := []) (wc := ([(mo, .inr (11, [.ref mw, .ref ma, .ref mf, .ref m0, .ref m1, .ref mu, .ref mv, .ref u0, .ref u1, .ref iz, .int th, .ref mb, .int mn, .int mpt, .int mbg, .int mwr, .int mwk, .int mlf, .int men])), (mw, .inl (ct 0, 958, .inl f))] ++ ws_58)) (ci := 11) (q0 := 0) hP hK hD hS hA hX rfl rfl) rfl rfl hl.1 rfl (lv_room (Nat.le_of_ble_eq_true rfl)) dX11_polarizes_81 ⟨Nat.le_of_ble_eq_true rfl, Nat.le_of_ble_eq_true rfl⟩) hP hD hS hA (fun u H locs hw_61 hP hD hS => ?_)
        obtain ⟨ws_62, f1_63⟩ := u
        obtain ⟨hT, hp_64⟩ := hw_61
        have hp_64 : rf_R G cx f1_63 ∧ rf_sm f f1_63 ∧ f1_63 = upd f (244 + 54 * p1.toInt.toNat + 8) x_59 := hp_64
        have hR_65 := hp_64.1
        have hM_66 := rf_smt (rf_smr f) hp_64.2.1
        have hP : va_P D vwCl ([(mo, .inr (11, [.ref mw, .ref ma, .ref mf, .ref m0, .ref m1, .ref mu, .ref mv, .ref u0, .ref u1, .ref iz, .int th, .ref mb, .int mn, .int mpt, .int mbg, .int mwr, .int mwk, .int mlf, .int men])), (mw, .inl (ct 0, 958, .inl f1_63))] ++ ws_62) H := hP
        have hD : va_D A ([(mo, .inr (11, [.ref mw, .ref ma, .ref mf, .ref m0, .ref m1, .ref mu, .ref mv, .ref u0, .ref u1, .ref iz, .int th, .ref mb, .int mn, .int mpt, .int mbg, .int mwr, .int mwk, .int mlf, .int men])), (mw, .inl (ct 0, 958, .inl f1_63))] ++ ws_62) := hD
        exact W.vret hx hb hr (fun t ht hW => ⟨⟨(ws_62, f1_63), rfl, ⟨hT, ⟨hR_65, hM_66, (by rw [hp_64.2.2]; exact rf_ne (by decide))⟩⟩, by rw [ht]; exact hP, by rw [hAe]; exact hD⟩, hS.F ht⟩) hS.2.2 dX11_polarizes_84
theorem dX11_moves_0 : decode cX11_moves 0 = .ok (.iload_n 2, 1) := by decide +kernel
theorem dX11_moves_1 : decode cX11_moves 1 = .ok (.ifCond .le 83, 3) := by decide +kernel
theorem dX11_moves_4 : decode cX11_moves 4 = .ok (.iload_n 2, 1) := by decide +kernel
theorem dX11_moves_5 : decode cX11_moves 5 = .ok (.aload_n 0, 1) := by decide +kernel
theorem dX11_moves_6 : decode cX11_moves 6 = .ok (.getfield 9, 3) := by decide +kernel
theorem dX11_moves_9 : decode cX11_moves 9 = .ok (.iconst 0, 1) := by decide +kernel
theorem dX11_moves_10 : decode cX11_moves 10 = .ok (.iaload, 1) := by decide +kernel
theorem dX11_moves_11 : decode cX11_moves 11 = .ok (.imul, 1) := by decide +kernel
theorem dX11_moves_12 : decode cX11_moves 12 = .ok (.aload_n 0, 1) := by decide +kernel
theorem dX11_moves_13 : decode cX11_moves 13 = .ok (.iload_n 1, 1) := by decide +kernel
theorem dX11_moves_14 : decode cX11_moves 14 = .ok (.bipush 16, 2) := by decide +kernel
theorem dX11_moves_16 : decode cX11_moves 16 = .ok (.invokevirtual 209, 3) := by decide +kernel
theorem dX11_moves_19 : decode cX11_moves 19 = .ok (.iadd, 1) := by decide +kernel
theorem dX11_moves_20 : decode cX11_moves 20 = .ok (.istore_n 3, 1) := by decide +kernel
theorem dX11_moves_21 : decode cX11_moves 21 = .ok (.aload_n 0, 1) := by decide +kernel
theorem dX11_moves_22 : decode cX11_moves 22 = .ok (.iload_n 1, 1) := by decide +kernel
theorem dX11_moves_23 : decode cX11_moves 23 = .ok (.bipush 6, 2) := by decide +kernel
theorem dX11_moves_25 : decode cX11_moves 25 = .ok (.iconst 2, 1) := by decide +kernel
theorem dX11_moves_26 : decode cX11_moves 26 = .ok (.aload_n 0, 1) := by decide +kernel
theorem dX11_moves_27 : decode cX11_moves 27 = .ok (.iload_n 1, 1) := by decide +kernel
theorem dX11_moves_28 : decode cX11_moves 28 = .ok (.bipush 12, 2) := by decide +kernel
theorem dX11_moves_30 : decode cX11_moves 30 = .ok (.invokevirtual 209, 3) := by decide +kernel
theorem dX11_moves_33 : decode cX11_moves 33 = .ok (.imul, 1) := by decide +kernel
theorem dX11_moves_34 : decode cX11_moves 34 = .ok (.aload_n 0, 1) := by decide +kernel
theorem dX11_moves_35 : decode cX11_moves 35 = .ok (.iload_n 1, 1) := by decide +kernel
theorem dX11_moves_36 : decode cX11_moves 36 = .ok (.bipush 6, 2) := by decide +kernel
theorem dX11_moves_38 : decode cX11_moves 38 = .ok (.invokevirtual 209, 3) := by decide +kernel
theorem dX11_moves_41 : decode cX11_moves 41 = .ok (.iload_n 3, 1) := by decide +kernel
theorem dX11_moves_42 : decode cX11_moves 42 = .ok (.sipush 1000, 3) := by decide +kernel
theorem dX11_moves_45 : decode cX11_moves 45 = .ok (.idiv, 1) := by decide +kernel
theorem dX11_moves_46 : decode cX11_moves 46 = .ok (.iadd, 1) := by decide +kernel
theorem dX11_moves_47 : decode cX11_moves 47 = .ok (.invokestatic 184, 3) := by decide +kernel
theorem dX11_moves_50 : decode cX11_moves 50 = .ok (.invokevirtual 234, 3) := by decide +kernel
theorem dX11_moves_53 : decode cX11_moves 53 = .ok (.aload_n 0, 1) := by decide +kernel
theorem dX11_moves_54 : decode cX11_moves 54 = .ok (.iload_n 1, 1) := by decide +kernel
theorem dX11_moves_55 : decode cX11_moves 55 = .ok (.bipush 16, 2) := by decide +kernel
theorem dX11_moves_57 : decode cX11_moves 57 = .ok (.iload_n 3, 1) := by decide +kernel
theorem dX11_moves_58 : decode cX11_moves 58 = .ok (.sipush 1000, 3) := by decide +kernel
theorem dX11_moves_61 : decode cX11_moves 61 = .ok (.irem, 1) := by decide +kernel
theorem dX11_moves_62 : decode cX11_moves 62 = .ok (.invokevirtual 234, 3) := by decide +kernel
theorem dX11_moves_65 : decode cX11_moves 65 = .ok (.aload_n 0, 1) := by decide +kernel
theorem dX11_moves_66 : decode cX11_moves 66 = .ok (.iload_n 1, 1) := by decide +kernel
theorem dX11_moves_67 : decode cX11_moves 67 = .ok (.iconst 0, 1) := by decide +kernel
theorem dX11_moves_68 : decode cX11_moves 68 = .ok (.iload_n 2, 1) := by decide +kernel
theorem dX11_moves_69 : decode cX11_moves 69 = .ok (.i2l, 1) := by decide +kernel
theorem dX11_moves_70 : decode cX11_moves 70 = .ok (.invokevirtual 238, 3) := by decide +kernel
theorem dX11_moves_73 : decode cX11_moves 73 = .ok (.aload_n 0, 1) := by decide +kernel
theorem dX11_moves_74 : decode cX11_moves 74 = .ok (.iload_n 1, 1) := by decide +kernel
theorem dX11_moves_75 : decode cX11_moves 75 = .ok (.iconst 4, 1) := by decide +kernel
theorem dX11_moves_76 : decode cX11_moves 76 = .ok (.iload_n 2, 1) := by decide +kernel
theorem dX11_moves_77 : decode cX11_moves 77 = .ok (.i2l, 1) := by decide +kernel
theorem dX11_moves_78 : decode cX11_moves 78 = .ok (.invokevirtual 238, 3) := by decide +kernel
theorem dX11_moves_81 : decode cX11_moves 81 = .ok (.goto 37, 3) := by decide +kernel
theorem dX11_moves_84 : decode cX11_moves 84 = .ok (.aload_n 0, 1) := by decide +kernel
theorem dX11_moves_85 : decode cX11_moves 85 = .ok (.iload_n 1, 1) := by decide +kernel
theorem dX11_moves_86 : decode cX11_moves 86 = .ok (.bipush 6, 2) := by decide +kernel
theorem dX11_moves_88 : decode cX11_moves 88 = .ok (.aload_n 0, 1) := by decide +kernel
theorem dX11_moves_89 : decode cX11_moves 89 = .ok (.iload_n 1, 1) := by decide +kernel
theorem dX11_moves_90 : decode cX11_moves 90 = .ok (.bipush 6, 2) := by decide +kernel
theorem dX11_moves_92 : decode cX11_moves 92 = .ok (.invokevirtual 209, 3) := by decide +kernel
theorem dX11_moves_95 : decode cX11_moves 95 = .ok (.iload_n 2, 1) := by decide +kernel
theorem dX11_moves_96 : decode cX11_moves 96 = .ok (.iadd, 1) := by decide +kernel
theorem dX11_moves_97 : decode cX11_moves 97 = .ok (.invokevirtual 234, 3) := by decide +kernel
theorem dX11_moves_100 : decode cX11_moves 100 = .ok (.aload_n 0, 1) := by decide +kernel
theorem dX11_moves_101 : decode cX11_moves 101 = .ok (.iload_n 1, 1) := by decide +kernel
theorem dX11_moves_102 : decode cX11_moves 102 = .ok (.iconst 1, 1) := by decide +kernel
theorem dX11_moves_103 : decode cX11_moves 103 = .ok (.iload_n 2, 1) := by decide +kernel
theorem dX11_moves_104 : decode cX11_moves 104 = .ok (.ineg, 1) := by decide +kernel
theorem dX11_moves_105 : decode cX11_moves 105 = .ok (.i2l, 1) := by decide +kernel
theorem dX11_moves_106 : decode cX11_moves 106 = .ok (.invokevirtual 238, 3) := by decide +kernel
theorem dX11_moves_109 : decode cX11_moves 109 = .ok (.aload_n 0, 1) := by decide +kernel
theorem dX11_moves_110 : decode cX11_moves 110 = .ok (.iload_n 1, 1) := by decide +kernel
theorem dX11_moves_111 : decode cX11_moves 111 = .ok (.iconst 5, 1) := by decide +kernel
theorem dX11_moves_112 : decode cX11_moves 112 = .ok (.iload_n 2, 1) := by decide +kernel
theorem dX11_moves_113 : decode cX11_moves 113 = .ok (.ineg, 1) := by decide +kernel
theorem dX11_moves_114 : decode cX11_moves 114 = .ok (.i2l, 1) := by decide +kernel
theorem dX11_moves_115 : decode cX11_moves 115 = .ok (.invokevirtual 238, 3) := by decide +kernel
theorem dX11_moves_118 : decode cX11_moves 118 = .ok (.return_, 1) := by decide +kernel
set_option maxRecDepth 100000 in
set_option maxHeartbeats 4000000 in
theorem m_X11_moves (l : Launch) (D : va_G) (ct : Nat → ClassId) (S : ty_S) (ws : va_W) (mo : Nat) (mw : Nat) (ma : Nat) (mf : Nat) (m0 : Nat) (m1 : Nat) (mu : Nat) (mv : Nat) (u0 : Nat) (u1 : Nat) (iz : Nat) (mb : Nat) (th : Int32) (mn : Int32) (mpt : Int32) (mbg : Int32) (mwr : Int32) (mwk : Int32) (mlf : Int32) (men : Int32) (f : Nat → Int32) (G : Nat → Int32) (cx : Int) (p1 : Int32) (p2 : Int32) (sz : Nat) (hT : ty_W ct S ws) (h_mu : S mu = some (.inr (1, 42))) (h_mv : S mv = some (.inr (1, 42))) (h_u0 : S u0 = some (.inr (1, 42))) (h_u1 : S u1 = some (.inr (1, 42))) (hR : rf_R G cx f) (hc : 0 ≤ p1.toInt ∧ p1.toInt < (G 9).toInt) (hi : -((rf_of f p1 6).toInt) ≤ p2.toInt ∧ p2.toInt ≤ 5000) : Met l yX11_moves (ws_ yX11_moves cX11_moves 4 none) ({ frames := 1, cells := 0, slots := 0, locals := 24 } : Room) (va_Pc [.ref mo, .int p1, .int p2] (cmP D ct sz ([(mo, .inr (11, [.ref mw, .ref ma, .ref mf, .ref m0, .ref m1, .ref mu, .ref mv, .ref u0, .ref u1, .ref iz, .int th, .ref mb, .int mn, .int mpt, .int mbg, .int mwr, .int mwk, .int mlf, .int men])), (mw, .inl (ct 0, 958, .inl f))] ++ ws))) (va_Qv (fun (u : va_W × (Nat → Int32)) => match u with | (u9, f1) => ty_W ct S u9 ∧ rf_R G cx f1 ∧ rf_sm f f1) (cmB D ([(mo, .inr (11, [.ref mw, .ref ma, .ref mf, .ref m0, .ref m1, .ref mu, .ref mv, .ref u0, .ref u1, .ref iz, .int th, .ref mb, .int mn, .int mpt, .int mbg, .int mwr, .int mwk, .int mlf, .int men])), (mw, .inl (ct 0, 958, .inl f))] ++ ws) sz (fun (u : va_W × (Nat → Int32)) => match u with | (u9, f1) => ([(mo, .inr (11, [.ref mw, .ref ma, .ref mf, .ref m0, .ref m1, .ref mu, .ref mv, .ref u0, .ref u1, .ref iz, .int th, .ref mb, .int mn, .int mpt, .int mbg, .int mwr, .int mwk, .int mlf, .int men])), (mw, .inl (ct 0, 958, .inl f1))] ++ u9))) (va_A ([(mo, .inr (11, [.ref mw, .ref ma, .ref mf, .ref m0, .ref m1, .ref mu, .ref mv, .ref u0, .ref u1, .ref iz, .int th, .ref mb, .int mn, .int mpt, .int mbg, .int mwr, .int mwk, .int mlf, .int men])), (mw, .inl (ct 0, 958, .inl f))] ++ ws) sz)) 0 0 (va_A ([(mo, .inr (11, [.ref mw, .ref ma, .ref mf, .ref m0, .ref m1, .ref mu, .ref mv, .ref u0, .ref u1, .ref iz, .int th, .ref mb, .int mn, .int mpt, .int mbg, .int mwr, .int mwk, .int mlf, .int men])), (mw, .inl (ct 0, 958, .inl f))] ++ ws) sz) := by
  refine Met.ofW (cc := cX11_moves) (maxL := 4) (ret := none) (by decide) rfl ?_
  intro p e s m args below meth c s₁ B hml hv
  obtain ⟨rfl, hsz, hP, hK, hD0, hX⟩ := hv
  have hx := B.exec
  have hb := B.bytes
  have hr := B.returns
  have hts := ws_all (atoms_spec (ws := ws_ yX11_moves cX11_moves 4 none) B.pre)
  have hown : s.vm.findClass RX11 = some m.cls := findClass_of_methodNamed B.named
  have hlocks := B.notSynchronized
  subst hsz
  have hD := hD0.self (sz := s.heap.size)
  generalize hAe : va_A ([(mo, .inr (11, [.ref mw, .ref ma, .ref mf, .ref m0, .ref m1, .ref mu, .ref mv, .ref u0, .ref u1, .ref iz, .int th, .ref mb, .int mn, .int mpt, .int mbg, .int mwr, .int mwk, .int mlf, .int men])), (mw, .inl (ct 0, 958, .inl f))] ++ ws) s.heap.size = A at hD hX ⊢
  have hA : ∀ q : Nat, s.heap.size ≤ q → A q := fun q h => by rw [← hAe]; exact Or.inr h
  have hS : va_S A s.heap s.heap [] := va_S.rf
  have hl := lv_entry ([.ref mo, .int p1, .int p2]) (n := 4) (Nat.le_of_ble_eq_true rfl)
  rw [lg_entry_eq]
  generalize (lg_sl ([.ref mo, .int p1, .int p2]) ++ List.replicate (4 - (lg_sl ([.ref mo, .int p1, .int p2])).length) Slot.unset).toArray = ls at hl ⊢
  have hl : lv_has ls 4 [(0, .ref mo), (1, .int p1), (2, .int p2)] := hl
  refine lv_iload_n hx hb dX11_moves_0 rfl (lv_at hl 2 rfl) ?_
  refine lv_if_le (tgt := 84) hx hb dX11_moves_1 (by decide) (fun hc_1 => ?_) (fun hc_1 => ?_)
  · refine lv_aload_n hx hb dX11_moves_84 rfl (lv_at hl 0 rfl) ?_
    refine lv_iload_n hx hb dX11_moves_85 rfl (lv_at hl 1 rfl) ?_
    refine lv_bipush (v := 6) hx hb dX11_moves_86 (by decide) ?_
    refine lv_aload_n hx hb dX11_moves_88 rfl (lv_at hl 0 rfl) ?_
    refine lv_iload_n hx hb dX11_moves_89 rfl (lv_at hl 1 rfl) ?_
    refine lv_bipush (v := 6) hx hb dX11_moves_90 (by decide) ?_
    refine ty_ki (wr := []) (wc := ([(mo, .inr (11, [.ref mw, .ref ma, .ref mf, .ref m0, .ref m1, .ref mu, .ref mv, .ref u0, .ref u1, .ref iz, .int th, .ref mb, .int mn, .int mpt, .int mbg, .int mwr, .int mwk, .int mlf, .int men])), (mw, .inl (ct 0, 958, .inl f))] ++ ws)) (va_runV (As := [.int p1, .int 6]) (rest := [.int 6, .int p1, .ref mo]) ⟨hx, hb, hml, hown, hts⟩ (m_of_6 l D ct S ws mo mw ma mf m0 m1 mu mv u0 u1 iz mb th mn mpt mbg mwr mwk mlf men f G cx p1 _ hT h_mu h_mv h_u0 h_u1 hR hc) (cm_V 2 hts kc_X11_of ki_RX11 kl_RX11_209 kv_X11_of kx_X11_of kd_X11_of ⟨Nat.le_of_ble_eq_true rfl, Nat.le_of_ble_eq_true rfl⟩) (ty_preE (wr := []) (wc := ([(mo, .inr (11, [.ref mw, .ref ma, .ref mf, .ref m0, .ref m1, .ref mu, .ref mv, .ref u0, .ref u1, .ref iz, .int th, .ref mb, .int mn, .int mpt, .int mbg, .int mwr, .int mwk, .int mlf, .int men])), (mw, .inl (ct 0, 958, .inl f))] ++ ws)) (ci := 11) (q0 := 0) hP hK hD hS hA hX rfl rfl) rfl rfl hl.1 rfl (lv_room (Nat.le_of_ble_eq_true rfl)) dX11_moves_92 ⟨Nat.le_of_ble_eq_true rfl, Nat.le_of_ble_eq_true rfl⟩) hP hD hS hA (fun r_2 u H locs hw_3 hP hD hS => ?_)
    obtain ⟨ws_4, rfl⟩ : ∃ z, z = u := ⟨_, rfl⟩
    obtain ⟨hT, rfl⟩ := hw_3
    have hP : va_P D vwCl ([(mo, .inr (11, [.ref mw, .ref ma, .ref mf, .ref m0, .ref m1, .ref mu, .ref mv, .ref u0, .ref u1, .ref iz, .int th, .ref mb, .int mn, .int mpt, .int mbg, .int mwr, .int mwk, .int mlf, .int men])), (mw, .inl (ct 0, 958, .inl f))] ++ ws_4) H := hP
    have hD : va_D A ([(mo, .inr (11, [.ref mw, .ref ma, .ref mf, .ref m0, .ref m1, .ref mu, .ref mv, .ref u0, .ref u1, .ref iz, .int th, .ref mb, .int mn, .int mpt, .int mbg, .int mwr, .int mwk, .int mlf, .int men])), (mw, .inl (ct 0, 958, .inl f))] ++ ws_4) := hD
    refine lv_iload_n hx hb dX11_moves_95 rfl (lv_at hl 2 rfl) ?_
    refine lv_iadd hx hb dX11_moves_96 ?_
    refine ty_kv (wr := []) (wc := ([(mo, .inr (11, [.ref mw, .ref ma, .ref mf, .ref m0, .ref m1, .ref mu, .ref mv, .ref u0, .ref u1, .ref iz, .int th, .ref mb, .int mn, .int mpt, .int mbg, .int mwr, .int mwk, .int mlf, .int men])), (mw, .inl (ct 0, 958, .inl f))] ++ ws_4)) (va_runV (As := [.int p1, .int 6, .int ((rf_of f p1 6) + p2)]) (rest := []) ⟨hx, hb, hml, hown, hts⟩ (m_put_6 l D ct S ws_4 mo mw ma mf m0 m1 mu mv u0 u1 iz mb th mn mpt mbg mwr mwk mlf men f G cx p1 ((rf_of f p1 6) + p2) _ hT h_mu h_mv h_u0 h_u1 hR hc (rf_mv3 hR hc hi (cm_nle9 hc_1))) (cm_V 3 hts kc_X11_put ki_RX11 kl_RX11_234 kv_X11_put kx_X11_put kd_X11_put ⟨Nat.le_of_ble_eq_true rfl, Nat.le_of_ble_eq_true rfl⟩) (ty_preE (wr := []) (wc := ([(mo, .inr (11, [.ref mw, .ref ma, .ref mf, .ref m0, .ref m1, .ref mu, .ref mv, .ref u0, .ref u1, .ref iz, .int th, .ref mb, .int mn, .int mpt, .int mbg, .int mwr, .int mwk, .int mlf, .int men])), (mw, .inl (ct 0, 958, .inl f))] ++ ws_4)) (ci := 11) (q0 := 0) hP hK hD hS hA hX rfl rfl) rfl rfl hl.1 rfl (lv_room (Nat.le_of_ble_eq_true rfl)) dX11_moves_97 ⟨Nat.le_of_ble_eq_true rfl, Nat.le_of_ble_eq_true rfl⟩) hP hD hS hA (fun u H locs hw_6 hP hD hS => ?_)
    obtain ⟨ws_7, f1_8⟩ := u
    obtain ⟨hT, hp_9⟩ := hw_6
    have hp_9 : rf_R G cx f1_8 ∧ rf_sm f f1_8 ∧ f1_8 = upd f (244 + 54 * p1.toInt.toNat + 6) ((rf_of f p1 6) + p2) := hp_9
    have hR_10 := hp_9.1
    have hM_11 := rf_smt (rf_smr f) hp_9.2.1
    have hP : va_P D vwCl ([(mo, .inr (11, [.ref mw, .ref ma, .ref mf, .ref m0, .ref m1, .ref mu, .ref mv, .ref u0, .ref u1, .ref iz, .int th, .ref mb, .int mn, .int mpt, .int mbg, .int mwr, .int mwk, .int mlf, .int men])), (mw, .inl (ct 0, 958, .inl f1_8))] ++ ws_7) H := hP
    have hD : va_D A ([(mo, .inr (11, [.ref mw, .ref ma, .ref mf, .ref m0, .ref m1, .ref mu, .ref mv, .ref u0, .ref u1, .ref iz, .int th, .ref mb, .int mn, .int mpt, .int mbg, .int mwr, .int mwk, .int mlf, .int men])), (mw, .inl (ct 0, 958, .inl f1_8))] ++ ws_7) := hD
    refine lv_aload_n hx hb dX11_moves_100 rfl (lv_at hl 0 rfl) ?_
    refine lv_iload_n hx hb dX11_moves_101 rfl (lv_at hl 1 rfl) ?_
    refine lv_iconst (v := 1) hx hb dX11_moves_102 (by decide) ?_
    refine lv_iload_n hx hb dX11_moves_103 rfl (lv_at hl 2 rfl) ?_
    refine lv_ineg hx hb dX11_moves_104 ?_
    refine lv_topi (fun x_12 _ => ?_)
    refine lv_i2l hx hb dX11_moves_105 rfl ?_
    refine lv_topl (fun x_13 _ => ?_)
    have hP : va_P D vwCl ([(mw, .inl (ct 0, 958, .inl f1_8)), (mo, .inr (11, [.ref mw, .ref ma, .ref mf, .ref m0, .ref m1, .ref mu, .ref mv, .ref u0, .ref u1, .ref iz, .int th, .ref mb, .int mn, .int mpt, .int mbg, .int mwr, .int mwk, .int mlf, .int men]))] ++ ws_7) H := ty_permP hP (ty_ordp (E := [(mo, .inr (11, [.ref mw, .ref ma, .ref mf, .ref m0, .ref m1, .ref mu, .ref mv, .ref u0, .ref u1, .ref iz, .int th, .ref mb, .int mn, .int mpt, .int mbg, .int mwr, .int mwk, .int mlf, .int men])), (mw, .inl (ct 0, 958, .inl f1_8))]) (E2 := [(mw, .inl (ct 0, 958, .inl f1_8)), (mo, .inr (11, [.ref mw, .ref ma, .ref mf, .ref m0, .ref m1, .ref mu, .ref mv, .ref u0, .ref u1, .ref iz, .int th, .ref mb, .int mn, .int mpt, .int mbg, .int mwr, .int mwk, .int mlf, .int men]))]) (n := 2) [1, 0] rfl rfl (by decide))
    have hD : va_D A ([(mw, .inl (ct 0, 958, .inl f1_8)), (mo, .inr (11, [.ref mw, .ref ma, .ref mf, .ref m0, .ref m1, .ref mu, .ref mv, .ref u0, .ref u1, .ref iz, .int th, .ref mb, .int mn, .int mpt, .int mbg, .int mwr, .int mwk, .int mlf, .int men]))] ++ ws_7) := ty_permD hD (ty_ordp (E := [(mo, .inr (11, [.ref mw, .ref ma, .ref mf, .ref m0, .ref m1, .ref mu, .ref mv, .ref u0, .ref u1, .ref iz, .int th, .ref mb, .int mn, .int mpt, .int mbg, .int mwr, .int mwk, .int mlf, .int men])), (mw, .inl (ct 0, 958, .inl f1_8))]) (E2 := [(mw, .inl (ct 0, 958, .inl f1_8)), (mo, .inr (11, [.ref mw, .ref ma, .ref mf, .ref m0, .ref m1, .ref mu, .ref mv, .ref u0, .ref u1, .ref iz, .int th, .ref mb, .int mn, .int mpt, .int mbg, .int mwr, .int mwk, .int mlf, .int men]))]) (n := 2) [1, 0] rfl rfl (by decide))
    refine ty_kv (wr := [(mw, .inl (ct 0, 958, .inl f1_8))]) (wc := ([(mo, .inr (11, [.ref mw, .ref ma, .ref mf, .ref m0, .ref m1, .ref mu, .ref mv, .ref u0, .ref u1, .ref iz, .int th, .ref mb, .int mn, .int mpt, .int mbg, .int mwr, .int mwk, .int mlf, .int men]))] ++ ws_7)) (va_runV (As := [.int p1, .int 1, .long x_13]) (rest := []) ⟨hx, hb, hml, hown, hts⟩ (m_X11_adds l D ct S ws_7 mo mw ma mf m0 m1 mu mv u0 u1 iz mb th mn mpt mbg mwr mwk mlf men p1 (1 : Int32) x_13 _ hT h_mu h_mv h_u0 h_u1 (rf_c6 hR_10 hc) (by decide)) (cm_V 3 hts kc_X11_adds ki_RX11 kl_RX11_238 kv_X11_adds kx_X11_adds kd_X11_adds ⟨Nat.le_of_ble_eq_true rfl, Nat.le_of_ble_eq_true rfl⟩) (ty_preE (wr := [(mw, .inl (ct 0, 958, .inl f1_8))]) (wc := ([(mo, .inr (11, [.ref mw, .ref ma, .ref mf, .ref m0, .ref m1, .ref mu, .ref mv, .ref u0, .ref u1, .ref iz, .int th, .ref mb, .int mn, .int mpt, .int mbg, .int mwr, .int mwk, .int mlf, .int men]))] ++ ws_7)) (ci := 11) (q0 := 1) hP hK hD hS hA hX rfl rfl) rfl rfl hl.1 rfl (lv_room (Nat.le_of_ble_eq_true rfl)) dX11_moves_106 ⟨Nat.le_of_ble_eq_true rfl, Nat.le_of_ble_eq_true rfl⟩) hP hD hS hA (fun u H locs hw_15 hP hD hS => ?_)
    obtain ⟨ws_16, rfl⟩ : ∃ z, z = u := ⟨_, rfl⟩
    have hT := hw_15
    have hP : va_P D vwCl ([(mw, .inl (ct 0, 958, .inl f1_8)), (mo, .inr (11, [.ref mw, .ref ma, .ref mf, .ref m0, .ref m1, .ref mu, .ref mv, .ref u0, .ref u1, .ref iz, .int th, .ref mb, .int mn, .int mpt, .int mbg, .int mwr, .int mwk, .int mlf, .int men]))] ++ ws_16) H := hP
    have hD : va_D A ([(mw, .inl (ct 0, 958, .inl f1_8)), (mo, .inr (11, [.ref mw, .ref ma, .ref mf, .ref m0, .ref m1, .ref mu, .ref mv, .ref u0, .ref u1, .ref iz, .int th, .ref mb, .int mn, .int mpt, .int mbg, .int mwr, .int mwk, .int mlf, .int men]))] ++ ws_16) := hD
    refine lv_aload_n hx hb dX11_moves_109 rfl (lv_at hl 0 rfl) ?_
    refine lv_iload_n hx hb dX11_moves_110 rfl (lv_at hl 1 rfl) ?_
    refine lv_iconst (v := 5) hx hb dX11_moves_111 (by decide) ?_
    refine lv_iload_n hx hb dX11_moves_112 rfl (lv_at hl 2 rfl) ?_
    refine lv_ineg hx hb dX11_moves_113 ?_
    refine lv_topi (fun x_17 _ => ?_)
    refine lv_i2l hx hb dX11_moves_114 rfl ?_
    refine lv_topl (fun x_18 _ => ?_)
    refine ty_kv (wr := [(mw, .inl (ct 0, 958, .inl f1_8))]) (wc := ([(mo, .inr (11, [.ref mw, .ref ma, .ref mf, .ref m0, .ref m1, .ref mu, .ref mv, .ref u0, .ref u1, .ref iz, .int th, .ref mb, .int mn, .int mpt, .int mbg, .int mwr, .int mwk, .int mlf, .int men]))] ++ ws_16)) (va_runV (As := [.int p1, .int 5, .long x_18]) (rest := []) ⟨hx, hb, hml, hown, hts⟩ (m_X11_adds l D ct S ws_16 mo mw ma mf m0 m1 mu mv u0 u1 iz mb th mn mpt mbg mwr mwk mlf men p1 (5 : Int32) x_18 _ hT h_mu h_mv h_u0 h_u1 (rf_c6 hR_10 hc) (by decide)) (cm_V 3 hts kc_X11_adds ki_RX11 kl_RX11_238 kv_X11_adds kx_X11_adds kd_X11_adds ⟨Nat.le_of_ble_eq_true rfl, Nat.le_of_ble_eq_true rfl⟩) (ty_preE (wr := [(mw, .inl (ct 0, 958, .inl f1_8))]) (wc := ([(mo, .inr (11, [.ref mw, .ref ma, .ref mf, .ref m0, .ref m1, .ref mu, .ref mv, .ref u0, .ref u1, .ref iz, .int th, .ref mb, .int mn, .int mpt, .int mbg, .int mwr, .int mwk, .int mlf, .int men]))] ++ ws_16)) (ci := 11) (q0 := 1) hP hK hD hS hA hX rfl rfl) rfl rfl hl.1 rfl (lv_room (Nat.le_of_ble_eq_true rfl)) dX11_moves_115 ⟨Nat.le_of_ble_eq_true rfl, Nat.le_of_ble_eq_true rfl⟩) hP hD hS hA (fun u H locs hw_20 hP hD hS => ?_)
    obtain ⟨ws_21, rfl⟩ : ∃ z, z = u := ⟨_, rfl⟩
    have hT := hw_20
    have hP : va_P D vwCl ([(mw, .inl (ct 0, 958, .inl f1_8)), (mo, .inr (11, [.ref mw, .ref ma, .ref mf, .ref m0, .ref m1, .ref mu, .ref mv, .ref u0, .ref u1, .ref iz, .int th, .ref mb, .int mn, .int mpt, .int mbg, .int mwr, .int mwk, .int mlf, .int men]))] ++ ws_21) H := hP
    have hD : va_D A ([(mw, .inl (ct 0, 958, .inl f1_8)), (mo, .inr (11, [.ref mw, .ref ma, .ref mf, .ref m0, .ref m1, .ref mu, .ref mv, .ref u0, .ref u1, .ref iz, .int th, .ref mb, .int mn, .int mpt, .int mbg, .int mwr, .int mwk, .int mlf, .int men]))] ++ ws_21) := hD
    have hP : va_P D vwCl ([(mo, .inr (11, [.ref mw, .ref ma, .ref mf, .ref m0, .ref m1, .ref mu, .ref mv, .ref u0, .ref u1, .ref iz, .int th, .ref mb, .int mn, .int mpt, .int mbg, .int mwr, .int mwk, .int mlf, .int men])), (mw, .inl (ct 0, 958, .inl f1_8))] ++ ws_21) H := ty_permP hP (ty_ordp (E := [(mw, .inl (ct 0, 958, .inl f1_8)), (mo, .inr (11, [.ref mw, .ref ma, .ref mf, .ref m0, .ref m1, .ref mu, .ref mv, .ref u0, .ref u1, .ref iz, .int th, .ref mb, .int mn, .int mpt, .int mbg, .int mwr, .int mwk, .int mlf, .int men]))]) (E2 := [(mo, .inr (11, [.ref mw, .ref ma, .ref mf, .ref m0, .ref m1, .ref mu, .ref mv, .ref u0, .ref u1, .ref iz, .int th, .ref mb, .int mn, .int mpt, .int mbg, .int mwr, .int mwk, .int mlf, .int men])), (mw, .inl (ct 0, 958, .inl f1_8))]) (n := 2) [1, 0] rfl rfl (by decide))
    have hD : va_D A ([(mo, .inr (11, [.ref mw, .ref ma, .ref mf, .ref m0, .ref m1, .ref mu, .ref mv, .ref u0, .ref u1, .ref iz, .int th, .ref mb, .int mn, .int mpt, .int mbg, .int mwr, .int mwk, .int mlf, .int men])), (mw, .inl (ct 0, 958, .inl f1_8))] ++ ws_21) := ty_permD hD (ty_ordp (E := [(mw, .inl (ct 0, 958, .inl f1_8)), (mo, .inr (11, [.ref mw, .ref ma, .ref mf, .ref m0, .ref m1, .ref mu, .ref mv, .ref u0, .ref u1, .ref iz, .int th, .ref mb, .int mn, .int mpt, .int mbg, .int mwr, .int mwk, .int mlf, .int men]))]) (E2 := [(mo, .inr (11, [.ref mw, .ref ma, .ref mf, .ref m0, .ref m1, .ref mu, .ref mv, .ref u0, .ref u1, .ref iz, .int th, .ref mb, .int mn, .int mpt, .int mbg, .int mwr, .int mwk, .int mlf, .int men])), (mw, .inl (ct 0, 958, .inl f1_8))]) (n := 2) [1, 0] rfl rfl (by decide))
    exact W.vret hx hb hr (fun t ht hW => ⟨⟨(ws_21, f1_8), rfl, ⟨hT, ⟨hR_10, hM_11⟩⟩, by rw [ht]; exact hP, by rw [hAe]; exact hD⟩, hS.F ht⟩) hS.2.2 dX11_moves_118
  · refine lv_iload_n hx hb dX11_moves_4 rfl (lv_at hl 2 rfl) ?_
    refine lv_aload_n hx hb dX11_moves_5 rfl (lv_at hl 0 rfl) ?_
    refine va_get (v := .ref mw) (D := D) (ci := 11) (C := RX11) (T := TX11) (N := 19) hx hb hts in_X11 hown hK hP 0 rfl rfl 0 (by decide) (hts _ kl_RX11_9) (fun _ h9 => h9) rfl dX11_moves_6 ?_
    refine lv_iconst (v := 0) hx hb dX11_moves_9 (by decide) ?_
    refine va_iald hx hb hK hP 1 0 rfl rfl (cm_vin (by decide)) dX11_moves_10 ?_
    refine cm_cst (y := (f 0)) (by first | rfl | decide +kernel) ?_
    refine lv_imul hx hb dX11_moves_11 ?_
    refine lv_aload_n hx hb dX11_moves_12 rfl (lv_at hl 0 rfl) ?_
    refine lv_iload_n hx hb dX11_moves_13 rfl (lv_at hl 1 rfl) ?_
    refine lv_bipush (v := 16) hx hb dX11_moves_14 (by decide) ?_
    refine ty_ki (wr := []) (wc := ([(mo, .inr (11, [.ref mw, .ref ma, .ref mf, .ref m0, .ref m1, .ref mu, .ref mv, .ref u0, .ref u1, .ref iz, .int th, .ref mb, .int mn, .int mpt, .int mbg, .int mwr, .int mwk, .int mlf, .int men])), (mw, .inl (ct 0, 958, .inl f))] ++ ws)) (va_runV (As := [.int p1, .int 16]) (rest := [.int (p2 * (f 0))]) ⟨hx, hb, hml, hown, hts⟩ (m_of_16 l D ct S ws mo mw ma mf m0 m1 mu mv u0 u1 iz mb th mn mpt mbg mwr mwk mlf men f G cx p1 _ hT h_mu h_mv h_u0 h_u1 hR hc) (cm_V 2 hts kc_X11_of ki_RX11 kl_RX11_209 kv_X11_of kx_X11_of kd_X11_of ⟨Nat.le_of_ble_eq_true rfl, Nat.le_of_ble_eq_true rfl⟩) (ty_preE (wr := []) (wc := ([(mo, .inr (11, [.ref mw, .ref ma, .ref mf, .ref m0, .ref m1, .ref mu, .ref mv, .ref u0, .ref u1, .ref iz, .int th, .ref mb, .int mn, .int mpt, .int mbg, .int mwr, .int mwk, .int mlf, .int men])), (mw, .inl (ct 0, 958, .inl f))] ++ ws)) (ci := 11) (q0 := 0) hP hK hD hS hA hX rfl rfl) rfl rfl hl.1 rfl (lv_room (Nat.le_of_ble_eq_true rfl)) dX11_moves_16 ⟨Nat.le_of_ble_eq_true rfl, Nat.le_of_ble_eq_true rfl⟩) hP hD hS hA (fun r_22 u H locs hw_23 hP hD hS => ?_)
    obtain ⟨ws_24, rfl⟩ : ∃ z, z = u := ⟨_, rfl⟩
    obtain ⟨hT, rfl⟩ := hw_23
    have hP : va_P D vwCl ([(mo, .inr (11, [.ref mw, .ref ma, .ref mf, .ref m0, .ref m1, .ref mu, .ref mv, .ref u0, .ref u1, .ref iz, .int th, .ref mb, .int mn, .int mpt, .int mbg, .int mwr, .int mwk, .int mlf, .int men])), (mw, .inl (ct 0, 958, .inl f))] ++ ws_24) H := hP
    have hD : va_D A ([(mo, .inr (11, [.ref mw, .ref ma, .ref mf, .ref m0, .ref m1, .ref mu, .ref mv, .ref u0, .ref u1, .ref iz, .int th, .ref mb, .int mn, .int mpt, .int mbg, .int mwr, .int mwk, .int mlf, .int men])), (mw, .inl (ct 0, 958, .inl f))] ++ ws_24) := hD
    refine lv_iadd hx hb dX11_moves_19 ?_
    refine lv_istore_n (lv' := [(3, .int ((p2 * (f 0)) + (rf_of f p1 16))), (0, .ref mo), (1, .int p1), (2, .int p2)]) hx hb dX11_moves_20 rfl hl (by decide) rfl (fun ls hl => ?_)
    refine lv_aload_n hx hb dX11_moves_21 rfl (lv_at hl 1 rfl) ?_
    refine lv_iload_n hx hb dX11_moves_22 rfl (lv_at hl 2 rfl) ?_
    refine lv_bipush (v := 6) hx hb dX11_moves_23 (by decide) ?_
    refine lv_iconst (v := 2) hx hb dX11_moves_25 (by decide) ?_
    refine lv_aload_n hx hb dX11_moves_26 rfl (lv_at hl 1 rfl) ?_
    refine lv_iload_n hx hb dX11_moves_27 rfl (lv_at hl 2 rfl) ?_
    refine lv_bipush (v := 12) hx hb dX11_moves_28 (by decide) ?_
    refine ty_ki (wr := []) (wc := ([(mo, .inr (11, [.ref mw, .ref ma, .ref mf, .ref m0, .ref m1, .ref mu, .ref mv, .ref u0, .ref u1, .ref iz, .int th, .ref mb, .int mn, .int mpt, .int mbg, .int mwr, .int mwk, .int mlf, .int men])), (mw, .inl (ct 0, 958, .inl f))] ++ ws_24)) (va_runV (As := [.int p1, .int 12]) (rest := [.int 2, .int 6, .int p1, .ref mo]) ⟨hx, hb, hml, hown, hts⟩ (m_of_12 l D ct S ws_24 mo mw ma mf m0 m1 mu mv u0 u1 iz mb th mn mpt mbg mwr mwk mlf men f G cx p1 _ hT h_mu h_mv h_u0 h_u1 hR hc) (cm_V 2 hts kc_X11_of ki_RX11 kl_RX11_209 kv_X11_of kx_X11_of kd_X11_of ⟨Nat.le_of_ble_eq_true rfl, Nat.le_of_ble_eq_true rfl⟩) (ty_preE (wr := []) (wc := ([(mo, .inr (11, [.ref mw, .ref ma, .ref mf, .ref m0, .ref m1, .ref mu, .ref mv, .ref u0, .ref u1, .ref iz, .int th, .ref mb, .int mn, .int mpt, .int mbg, .int mwr, .int mwk, .int mlf, .int men])), (mw, .inl (ct 0, 958, .inl f))] ++ ws_24)) (ci := 11) (q0 := 0) hP hK hD hS hA hX rfl rfl) rfl rfl hl.1 rfl (lv_room (Nat.le_of_ble_eq_true rfl)) dX11_moves_30 ⟨Nat.le_of_ble_eq_true rfl, Nat.le_of_ble_eq_true rfl⟩) hP hD hS hA (fun r_25 u H locs hw_26 hP hD hS => ?_)
    obtain ⟨ws_27, rfl⟩ : ∃ z, z = u := ⟨_, rfl⟩
    obtain ⟨hT, rfl⟩ := hw_26
    have hP : va_P D vwCl ([(mo, .inr (11, [.ref mw, .ref ma, .ref mf, .ref m0, .ref m1, .ref mu, .ref mv, .ref u0, .ref u1, .ref iz, .int th, .ref mb, .int mn, .int mpt, .int mbg, .int mwr, .int mwk, .int mlf, .int men])), (mw, .inl (ct 0, 958, .inl f))] ++ ws_27) H := hP
    have hD : va_D A ([(mo, .inr (11, [.ref mw, .ref ma, .ref mf, .ref m0, .ref m1, .ref mu, .ref mv, .ref u0, .ref u1, .ref iz, .int th, .ref mb, .int mn, .int mpt, .int mbg, .int mwr, .int mwk, .int mlf, .int men])), (mw, .inl (ct 0, 958, .inl f))] ++ ws_27) := hD
    refine lv_imul hx hb dX11_moves_33 ?_
    refine lv_aload_n hx hb dX11_moves_34 rfl (lv_at hl 1 rfl) ?_
    refine lv_iload_n hx hb dX11_moves_35 rfl (lv_at hl 2 rfl) ?_
    refine lv_bipush (v := 6) hx hb dX11_moves_36 (by decide) ?_
    refine ty_ki (wr := []) (wc := ([(mo, .inr (11, [.ref mw, .ref ma, .ref mf, .ref m0, .ref m1, .ref mu, .ref mv, .ref u0, .ref u1, .ref iz, .int th, .ref mb, .int mn, .int mpt, .int mbg, .int mwr, .int mwk, .int mlf, .int men])), (mw, .inl (ct 0, 958, .inl f))] ++ ws_27)) (va_runV (As := [.int p1, .int 6]) (rest := [.int (2 * (rf_of f p1 12)), .int 6, .int p1, .ref mo]) ⟨hx, hb, hml, hown, hts⟩ (m_of_6 l D ct S ws_27 mo mw ma mf m0 m1 mu mv u0 u1 iz mb th mn mpt mbg mwr mwk mlf men f G cx p1 _ hT h_mu h_mv h_u0 h_u1 hR hc) (cm_V 2 hts kc_X11_of ki_RX11 kl_RX11_209 kv_X11_of kx_X11_of kd_X11_of ⟨Nat.le_of_ble_eq_true rfl, Nat.le_of_ble_eq_true rfl⟩) (ty_preE (wr := []) (wc := ([(mo, .inr (11, [.ref mw, .ref ma, .ref mf, .ref m0, .ref m1, .ref mu, .ref mv, .ref u0, .ref u1, .ref iz, .int th, .ref mb, .int mn, .int mpt, .int mbg, .int mwr, .int mwk, .int mlf, .int men])), (mw, .inl (ct 0, 958, .inl f))] ++ ws_27)) (ci := 11) (q0 := 0) hP hK hD hS hA hX rfl rfl) rfl rfl hl.1 rfl (lv_room (Nat.le_of_ble_eq_true rfl)) dX11_moves_38 ⟨Nat.le_of_ble_eq_true rfl, Nat.le_of_ble_eq_true rfl⟩) hP hD hS hA (fun r_28 u H locs hw_29 hP hD hS => ?_)
    obtain ⟨ws_30, rfl⟩ : ∃ z, z = u := ⟨_, rfl⟩
    obtain ⟨hT, rfl⟩ := hw_29
    have hP : va_P D vwCl ([(mo, .inr (11, [.ref mw, .ref ma, .ref mf, .ref m0, .ref m1, .ref mu, .ref mv, .ref u0, .ref u1, .ref iz, .int th, .ref mb, .int mn, .int mpt, .int mbg, .int mwr, .int mwk, .int mlf, .int men])), (mw, .inl (ct 0, 958, .inl f))] ++ ws_30) H := hP
    have hD : va_D A ([(mo, .inr (11, [.ref mw, .ref ma, .ref mf, .ref m0, .ref m1, .ref mu, .ref mv, .ref u0, .ref u1, .ref iz, .int th, .ref mb, .int mn, .int mpt, .int mbg, .int mwr, .int mwk, .int mlf, .int men])), (mw, .inl (ct 0, 958, .inl f))] ++ ws_30) := hD
    refine lv_iload_n hx hb dX11_moves_41 rfl (lv_at hl 0 rfl) ?_
    refine lv_sipush (v := 1000) hx hb dX11_moves_42 (by decide) ?_
    refine lv_idiv hx hb dX11_moves_45 (by decide) ?_
    refine lv_iadd hx hb dX11_moves_46 ?_
    refine va_mmin hx hb (hml.trans hl.1.symm) hown (hts _ kl_RX11_184) (hts _ jm_min_s) (hts _ ki_RJ9) (hts _ jm_min_c) (Nat.le_of_ble_eq_true rfl) (Nat.le_of_ble_eq_true rfl) (Nat.le_of_ble_eq_true rfl) (Nat.le_of_ble_eq_true rfl) dX11_moves_47 ?_
    refine ty_kv (wr := []) (wc := ([(mo, .inr (11, [.ref mw, .ref ma, .ref mf, .ref m0, .ref m1, .ref mu, .ref mv, .ref u0, .ref u1, .ref iz, .int th, .ref mb, .int mn, .int mpt, .int mbg, .int mwr, .int mwk, .int mlf, .int men])), (mw, .inl (ct 0, 958, .inl f))] ++ ws_30)) (va_runV (As := [.int p1, .int 6, .int (if ((rf_of f p1 6) + (((p2 * (f 0)) + (rf_of f p1 16)) / 1000)) < (2 * (rf_of f p1 12)) then ((rf_of f p1 6) + (((p2 * (f 0)) + (rf_of f p1 16)) / 1000)) else (2 * (rf_of f p1 12)))]) (rest := []) ⟨hx, hb, hml, hown, hts⟩ (m_put_6 l D ct S ws_30 mo mw ma mf m0 m1 mu mv u0 u1 iz mb th mn mpt mbg mwr mwk mlf men f G cx p1 (if ((rf_of f p1 6) + (((p2 * (f 0)) + (rf_of f p1 16)) / 1000)) < (2 * (rf_of f p1 12)) then ((rf_of f p1 6) + (((p2 * (f 0)) + (rf_of f p1 16)) / 1000)) else (2 * (rf_of f p1 12))) _ hT h_mu h_mv h_u0 h_u1 hR hc (rf_mv1 hR hc (rf_all ⟨by have := (cm_lt9 hc_1); rw [Int32.lt_iff_toInt_lt, show (0 : Int32).toInt = 0 from by decide] at this; omega, hi.2⟩ (rf_hs hR).2.2 (rf_lr hR hc)))) (cm_V 3 hts kc_X11_put ki_RX11 kl_RX11_234 kv_X11_put kx_X11_put kd_X11_put ⟨Nat.le_of_ble_eq_true rfl, Nat.le_of_ble_eq_true rfl⟩) (ty_preE (wr := []) (wc := ([(mo, .inr (11, [.ref mw, .ref ma, .ref mf, .ref m0, .ref m1, .ref mu, .ref mv, .ref u0, .ref u1, .ref iz, .int th, .ref mb, .int mn, .int mpt, .int mbg, .int mwr, .int mwk, .int mlf, .int men])), (mw, .inl (ct 0, 958, .inl f))] ++ ws_30)) (ci := 11) (q0 := 0) hP hK hD hS hA hX rfl rfl) rfl rfl hl.1 rfl (lv_room (Nat.le_of_ble_eq_true rfl)) dX11_moves_50 ⟨Nat.le_of_ble_eq_true rfl, Nat.le_of_ble_eq_true rfl⟩) hP hD hS hA (fun u H locs hw_32 hP hD hS => ?_)
    obtain ⟨ws_33, f1_34⟩ := u
    obtain ⟨hT, hp_35⟩ := hw_32
    have hp_35 : rf_R G cx f1_34 ∧ rf_sm f f1_34 ∧ f1_34 = upd f (244 + 54 * p1.toInt.toNat + 6) (if ((rf_of f p1 6) + (((p2 * (f 0)) + (rf_of f p1 16)) / 1000)) < (2 * (rf_of f p1 12)) then ((rf_of f p1 6) + (((p2 * (f 0)) + (rf_of f p1 16)) / 1000)) else (2 * (rf_of f p1 12))) := hp_35
    have hR_36 := hp_35.1
    have hM_37 := rf_smt (rf_smr f) hp_35.2.1
    have hP : va_P D vwCl ([(mo, .inr (11, [.ref mw, .ref ma, .ref mf, .ref m0, .ref m1, .ref mu, .ref mv, .ref u0, .ref u1, .ref iz, .int th, .ref mb, .int mn, .int mpt, .int mbg, .int mwr, .int mwk, .int mlf, .int men])), (mw, .inl (ct 0, 958, .inl f1_34))] ++ ws_33) H := hP
    have hD : va_D A ([(mo, .inr (11, [.ref mw, .ref ma, .ref mf, .ref m0, .ref m1, .ref mu, .ref mv, .ref u0, .ref u1, .ref iz, .int th, .ref mb, .int mn, .int mpt, .int mbg, .int mwr, .int mwk, .int mlf, .int men])), (mw, .inl (ct 0, 958, .inl f1_34))] ++ ws_33) := hD
    refine lv_aload_n hx hb dX11_moves_53 rfl (lv_at hl 1 rfl) ?_
    refine lv_iload_n hx hb dX11_moves_54 rfl (lv_at hl 2 rfl) ?_
    refine lv_bipush (v := 16) hx hb dX11_moves_55 (by decide) ?_
    refine lv_iload_n hx hb dX11_moves_57 rfl (lv_at hl 0 rfl) ?_
    refine lv_sipush (v := 1000) hx hb dX11_moves_58 (by decide) ?_
    refine lv_irem hx hb dX11_moves_61 (by decide) ?_
    refine ty_kv (wr := []) (wc := ([(mo, .inr (11, [.ref mw, .ref ma, .ref mf, .ref m0, .ref m1, .ref mu, .ref mv, .ref u0, .ref u1, .ref iz, .int th, .ref mb, .int mn, .int mpt, .int mbg, .int mwr, .int mwk, .int mlf, .int men])), (mw, .inl (ct 0, 958, .inl f1_34))] ++ ws_33)) (va_runV (As := [.int p1, .int 16, .int (((p2 * (f 0)) + (rf_of f p1 16)) % 1000)]) (rest := []) ⟨hx, hb, hml, hown, hts⟩ (m_put_16 l D ct S ws_33 mo mw ma mf m0 m1 mu mv u0 u1 iz mb th mn mpt mbg mwr mwk mlf men f1_34 G cx p1 (((p2 * (f 0)) + (rf_of f p1 16)) % 1000) _ hT h_mu h_mv h_u0 h_u1 hR_36 hc (rf_mv2 (rf_all ⟨by have := (cm_lt9 hc_1); rw [Int32.lt_iff_toInt_lt, show (0 : Int32).toInt = 0 from by decide] at this; omega, hi.2⟩ (rf_hs hR).2.2 (rf_lr hR hc)))) (cm_V 3 hts kc_X11_put ki_RX11 kl_RX11_234 kv_X11_put kx_X11_put kd_X11_put ⟨Nat.le_of_ble_eq_true rfl, Nat.le_of_ble_eq_true rfl⟩) (ty_preE (wr := []) (wc := ([(mo, .inr (11, [.ref mw, .ref ma, .ref mf, .ref m0, .ref m1, .ref mu, .ref mv, .ref u0, .ref u1, .ref iz, .int th, .ref mb, .int mn, .int mpt, .int mbg, .int mwr, .int mwk, .int mlf, .int men])), (mw, .inl (ct 0, 958, .inl f1_34))] ++ ws_33)) (ci := 11) (q0 := 0) hP hK hD hS hA hX rfl rfl) rfl rfl hl.1 rfl (lv_room (Nat.le_of_ble_eq_true rfl)) dX11_moves_62 ⟨Nat.le_of_ble_eq_true rfl, Nat.le_of_ble_eq_true rfl⟩) hP hD hS hA (fun u H locs hw_39 hP hD hS => ?_)
    obtain ⟨ws_40, f1_41⟩ := u
    obtain ⟨hT, hp_42⟩ := hw_39
    have hp_42 : rf_R G cx f1_41 ∧ rf_sm f1_34 f1_41 ∧ f1_41 = upd f1_34 (244 + 54 * p1.toInt.toNat + 16) (((p2 * (f 0)) + (rf_of f p1 16)) % 1000) := hp_42
    have hR_43 := hp_42.1
    have hM_44 := rf_smt hM_37 hp_42.2.1
    have hP : va_P D vwCl ([(mo, .inr (11, [.ref mw, .ref ma, .ref mf, .ref m0, .ref m1, .ref mu, .ref mv, .ref u0, .ref u1, .ref iz, .int th, .ref mb, .int mn, .int mpt, .int mbg, .int mwr, .int mwk, .int mlf, .int men])), (mw, .inl (ct 0, 958, .inl f1_41))] ++ ws_40) H := hP
    have hD : va_D A ([(mo, .inr (11, [.ref mw, .ref ma, .ref mf, .ref m0, .ref m1, .ref mu, .ref mv, .ref u0, .ref u1, .ref iz, .int th, .ref mb, .int mn, .int mpt, .int mbg, .int mwr, .int mwk, .int mlf, .int men])), (mw, .inl (ct 0, 958, .inl f1_41))] ++ ws_40) := hD
    refine lv_aload_n hx hb dX11_moves_65 rfl (lv_at hl 1 rfl) ?_
    refine lv_iload_n hx hb dX11_moves_66 rfl (lv_at hl 2 rfl) ?_
    refine lv_iconst (v := 0) hx hb dX11_moves_67 (by decide) ?_
    refine lv_iload_n hx hb dX11_moves_68 rfl (lv_at hl 3 rfl) ?_
    refine lv_i2l hx hb dX11_moves_69 rfl ?_
    refine lv_topl (fun x_45 _ => ?_)
    have hP : va_P D vwCl ([(mw, .inl (ct 0, 958, .inl f1_41)), (mo, .inr (11, [.ref mw, .ref ma, .ref mf, .ref m0, .ref m1, .ref mu, .ref mv, .ref u0, .ref u1, .ref iz, .int th, .ref mb, .int mn, .int mpt, .int mbg, .int mwr, .int mwk, .int mlf, .int men]))] ++ ws_40) H := ty_permP hP (ty_ordp (E := [(mo, .inr (11, [.ref mw, .ref ma, .ref mf, .ref m0, .ref m1, .ref mu, .ref mv, .ref u0, .ref u1, .ref iz, .int th, .ref mb, .int mn, .int mpt, .int mbg, .int mwr, .int mwk, .int mlf, .int men])), (mw, .inl (ct 0, 958, .inl f1_41))]) (E2 := [(mw, .inl (ct 0, 958, .inl f1_41)), (mo, .inr (11, [.ref mw, .ref ma, .ref mf, .ref m0, .ref m1, .ref mu, .ref mv, .ref u0, .ref u1, .ref iz, .int th, .ref mb, .int mn, .int mpt, .int mbg, .int mwr, .int mwk, .int mlf, .int men]))]) (n := 2) [1, 0] rfl rfl (by decide))
    have hD : va_D A ([(mw, .inl (ct 0, 958, .inl f1_41)), (mo, .inr (11, [.ref mw, .ref ma, .ref mf, .ref m0, .ref m1, .ref mu, .ref mv, .ref u0, .ref u1, .ref iz, .int th, .ref mb, .int mn, .int mpt, .int mbg, .int mwr, .int mwk, .int mlf, .int men]))] ++ ws_40) := ty_permD hD (ty_ordp (E := [(mo, .inr (11, [.ref mw, .ref ma, .ref mf, .ref m0, .ref m1, .ref mu, .ref mv, .ref u0, .ref u1, .ref iz, .int th, .ref mb, .int mn, .int mpt, .int mbg, .int mwr, .int mwk, .int mlf, .int men])), (mw, .inl (ct 0, 958, .inl f1_41))]) (E2 := [(mw, .inl (ct 0, 958, .inl f1_41)), (mo, .inr (11, [.ref mw, .ref ma, .ref mf, .ref m0, .ref m1, .ref mu, .ref mv, .ref u0, .ref u1, .ref iz, .int th, .ref mb, .int mn, .int mpt, .int mbg, .int mwr, .int mwk, .int mlf, .int men]))]) (n := 2) [1, 0] rfl rfl (by decide))
    refine ty_kv (wr := [(mw, .inl (ct 0, 958, .inl f1_41))]) (wc := ([(mo, .inr (11, [.ref mw, .ref ma, .ref mf, .ref m0, .ref m1, .ref mu, .ref mv, .ref u0, .ref u1, .ref iz, .int th, .ref mb, .int mn, .int mpt, .int mbg, .int mwr, .int mwk, .int mlf, .int men]))] ++ ws_40)) (va_runV (As := [.int p1, .int 0, .long x_45]) (rest := []) ⟨hx, hb, hml, hown, hts⟩ (m_X11_adds l D ct S ws_40 mo mw ma mf m0 m1 mu mv u0 u1 iz mb th mn mpt mbg mwr mwk mlf men p1 (0 : Int32) x_45 _ hT h_mu h_mv h_u0 h_u1 (rf_c6 hR_43 hc) (by decide)) (cm_V 3 hts kc_X11_adds ki_RX11 kl_RX11_238 kv_X11_adds kx_X11_adds kd_X11_adds ⟨Nat.le_of_ble_eq_true rfl, Nat.le_of_ble_eq_true rfl⟩) (ty_preE (wr := [(mw, .inl (ct 0, 958, .inl f1_41))]) (wc := ([(mo, .inr (11, [.ref mw, .ref ma, .ref mf, .ref m0, .ref m1, .ref mu, .ref mv, .ref u0, .ref u1, .ref iz, .int th, .ref mb, .int mn, .int mpt, .int mbg, .int mwr, .int mwk, .int mlf, .int men]))] ++ ws_40)) (ci := 11) (q0 := 1) hP hK hD hS hA hX rfl rfl) rfl rfl hl.1 rfl (lv_room (Nat.le_of_ble_eq_true rfl)) dX11_moves_70 ⟨Nat.le_of_ble_eq_true rfl, Nat.le_of_ble_eq_true rfl⟩) hP hD hS hA (fun u H locs hw_47 hP hD hS => ?_)
    obtain ⟨ws_48, rfl⟩ : ∃ z, z = u := ⟨_, rfl⟩
    have hT := hw_47
    have hP : va_P D vwCl ([(mw, .inl (ct 0, 958, .inl f1_41)), (mo, .inr (11, [.ref mw, .ref ma, .ref mf, .ref m0, .ref m1, .ref mu, .ref mv, .ref u0, .ref u1, .ref iz, .int th, .ref mb, .int mn, .int mpt, .int mbg, .int mwr, .int mwk, .int mlf, .int men]))] ++ ws_48) H := hP
    have hD : va_D A ([(mw, .inl (ct 0, 958, .inl f1_41)), (mo, .inr (11, [.ref mw, .ref ma, .ref mf, .ref m0, .ref m1, .ref mu, .ref mv, .ref u0, .ref u1, .ref iz, .int th, .ref mb, .int mn, .int mpt, .int mbg, .int mwr, .int mwk, .int mlf, .int men]))] ++ ws_48) := hD
    refine lv_aload_n hx hb dX11_moves_73 rfl (lv_at hl 1 rfl) ?_
    refine lv_iload_n hx hb dX11_moves_74 rfl (lv_at hl 2 rfl) ?_
    refine lv_iconst (v := 4) hx hb dX11_moves_75 (by decide) ?_
    refine lv_iload_n hx hb dX11_moves_76 rfl (lv_at hl 3 rfl) ?_
    refine lv_i2l hx hb dX11_moves_77 rfl ?_
    refine lv_topl (fun x_49 _ => ?_)
    refine ty_kv (wr := [(mw, .inl (ct 0, 958, .inl f1_41))]) (wc := ([(mo, .inr (11, [.ref mw, .ref ma, .ref mf, .ref m0, .ref m1, .ref mu, .ref mv, .ref u0, .ref u1, .ref iz, .int th, .ref mb, .int mn, .int mpt, .int mbg, .int mwr, .int mwk, .int mlf, .int men]))] ++ ws_48)) (va_runV (As := [.int p1, .int 4, .long x_49]) (rest := []) ⟨hx, hb, hml, hown, hts⟩ (m_X11_adds l D ct S ws_48 mo mw ma mf m0 m1 mu mv u0 u1 iz mb th mn mpt mbg mwr mwk mlf men p1 (4 : Int32) x_49 _ hT h_mu h_mv h_u0 h_u1 (rf_c6 hR_43 hc) (by decide)) (cm_V 3 hts kc_X11_adds ki_RX11 kl_RX11_238 kv_X11_adds kx_X11_adds kd_X11_adds ⟨Nat.le_of_ble_eq_true rfl, Nat.le_of_ble_eq_true rfl⟩) (ty_preE (wr := [(mw, .inl (ct 0, 958, .inl f1_41))]) (wc := ([(mo, .inr (11, [.ref mw, .ref ma, .ref mf, .ref m0, .ref m1, .ref mu, .ref mv, .ref u0, .ref u1, .ref iz, .int th, .ref mb, .int mn, .int mpt, .int mbg, .int mwr, .int mwk, .int mlf, .int men]))] ++ ws_48)) (ci := 11) (q0 := 1) hP hK hD hS hA hX rfl rfl) rfl rfl hl.1 rfl (lv_room (Nat.le_of_ble_eq_true rfl)) dX11_moves_78 ⟨Nat.le_of_ble_eq_true rfl, Nat.le_of_ble_eq_true rfl⟩) hP hD hS hA (fun u H locs hw_51 hP hD hS => ?_)
    obtain ⟨ws_52, rfl⟩ : ∃ z, z = u := ⟨_, rfl⟩
    have hT := hw_51
    have hP : va_P D vwCl ([(mw, .inl (ct 0, 958, .inl f1_41)), (mo, .inr (11, [.ref mw, .ref ma, .ref mf, .ref m0, .ref m1, .ref mu, .ref mv, .ref u0, .ref u1, .ref iz, .int th, .ref mb, .int mn, .int mpt, .int mbg, .int mwr, .int mwk, .int mlf, .int men]))] ++ ws_52) H := hP
    have hD : va_D A ([(mw, .inl (ct 0, 958, .inl f1_41)), (mo, .inr (11, [.ref mw, .ref ma, .ref mf, .ref m0, .ref m1, .ref mu, .ref mv, .ref u0, .ref u1, .ref iz, .int th, .ref mb, .int mn, .int mpt, .int mbg, .int mwr, .int mwk, .int mlf, .int men]))] ++ ws_52) := hD
    refine lv_goto (tgt := 118) hx hb dX11_moves_81 (by decide) ?_
    have hP : va_P D vwCl ([(mo, .inr (11, [.ref mw, .ref ma, .ref mf, .ref m0, .ref m1, .ref mu, .ref mv, .ref u0, .ref u1, .ref iz, .int th, .ref mb, .int mn, .int mpt, .int mbg, .int mwr, .int mwk, .int mlf, .int men])), (mw, .inl (ct 0, 958, .inl f1_41))] ++ ws_52) H := ty_permP hP (ty_ordp (E := [(mw, .inl (ct 0, 958, .inl f1_41)), (mo, .inr (11, [.ref mw, .ref ma, .ref mf, .ref m0, .ref m1, .ref mu, .ref mv, .ref u0, .ref u1, .ref iz, .int th, .ref mb, .int mn, .int mpt, .int mbg, .int mwr, .int mwk, .int mlf, .int men]))]) (E2 := [(mo, .inr (11, [.ref mw, .ref ma, .ref mf, .ref m0, .ref m1, .ref mu, .ref mv, .ref u0, .ref u1, .ref iz, .int th, .ref mb, .int mn, .int mpt, .int mbg, .int mwr, .int mwk, .int mlf, .int men])), (mw, .inl (ct 0, 958, .inl f1_41))]) (n := 2) [1, 0] rfl rfl (by decide))
    have hD : va_D A ([(mo, .inr (11, [.ref mw, .ref ma, .ref mf, .ref m0, .ref m1, .ref mu, .ref mv, .ref u0, .ref u1, .ref iz, .int th, .ref mb, .int mn, .int mpt, .int mbg, .int mwr, .int mwk, .int mlf, .int men])), (mw, .inl (ct 0, 958, .inl f1_41))] ++ ws_52) := ty_permD hD (ty_ordp (E := [(mw, .inl (ct 0, 958, .inl f1_41)), (mo, .inr (11, [.ref mw, .ref ma, .ref mf, .ref m0, .ref m1, .ref mu, .ref mv, .ref u0, .ref u1, .ref iz, .int th, .ref mb, .int mn, .int mpt, .int mbg, .int mwr, .int mwk, .int mlf, .int men]))]) (E2 := [(mo, .inr (11, [.ref mw, .ref ma, .ref mf, .ref m0, .ref m1, .ref mu, .ref mv, .ref u0, .ref u1, .ref iz, .int th, .ref mb, .int mn, .int mpt, .int mbg, .int mwr, .int mwk, .int mlf, .int men])), (mw, .inl (ct 0, 958, .inl f1_41))]) (n := 2) [1, 0] rfl rfl (by decide))
    exact W.vret hx hb hr (fun t ht hW => ⟨⟨(ws_52, f1_41), rfl, ⟨hT, ⟨hR_43, hM_44⟩⟩, by rw [ht]; exact hP, by rw [hAe]; exact hD⟩, hS.F ht⟩) hS.2.2 dX11_moves_118

theorem dJ9_abs_0f7a4_0 : decode cJ9_abs_0f7a4 0 = .ok (.iload_n 0, 1) := by decide +kernel
theorem dJ9_abs_0f7a4_1 : decode cJ9_abs_0f7a4 1 = .ok (.ifCond .ge 8, 3) := by decide +kernel
theorem dJ9_abs_0f7a4_4 : decode cJ9_abs_0f7a4 4 = .ok (.iload_n 0, 1) := by decide +kernel
theorem dJ9_abs_0f7a4_5 : decode cJ9_abs_0f7a4 5 = .ok (.ineg, 1) := by decide +kernel
theorem dJ9_abs_0f7a4_6 : decode cJ9_abs_0f7a4 6 = .ok (.goto 4, 3) := by decide +kernel
theorem dJ9_abs_0f7a4_9 : decode cJ9_abs_0f7a4 9 = .ok (.iload_n 0, 1) := by decide +kernel
theorem dJ9_abs_0f7a4_10 : decode cJ9_abs_0f7a4 10 = .ok (.ireturn, 1) := by decide +kernel
set_option maxRecDepth 100000 in
set_option maxHeartbeats 4000000 in
theorem t_J9_abs_0f7a4 (l : Launch) (D : va_G) (ct : Nat → ClassId) (S : ty_S) (ws : va_W) (p1 : Int32) (sz : Nat) (hT : ty_W ct S ws) : Met l yJ9_abs_0f7a4 (ws_ yJ9_abs_0f7a4 cJ9_abs_0f7a4 1 (some .int)) ({ frames := 0, cells := 0, slots := 0, locals := 0 } : Room) (va_Pc [.int p1] (cmP D ct sz ([] ++ ws))) (va_Qi (fun (r : Int32) (u9 : va_W) => ty_W ct S u9) (cmB D ([] ++ ws) sz (fun (u9 : va_W) => ([] ++ u9))) (va_A ([] ++ ws) sz)) 0 0 (va_A ([] ++ ws) sz) := by
  refine Met.ofW (cc := cJ9_abs_0f7a4) (maxL := 1) (ret := (some .int)) (by decide) rfl ?_
  intro p e s m args below meth c s₁ B hml hv
  obtain ⟨rfl, hsz, hP, hK, hD0, hX⟩ := hv
  have hx := B.exec
  have hb := B.bytes
  have hr := B.returns
  have hts := ws_all (atoms_spec (ws := ws_ yJ9_abs_0f7a4 cJ9_abs_0f7a4 1 (some .int)) B.pre)
  have hown : s.vm.findClass RJ9 = some m.cls := findClass_of_methodNamed B.named
  have hlocks := B.notSynchronized
  subst hsz
  have hD := hD0.self (sz := s.heap.size)
  generalize hAe : va_A ([] ++ ws) s.heap.size = A at hD hX ⊢
  have hA : ∀ q : Nat, s.heap.size ≤ q → A q := fun q h => by rw [← hAe]; exact Or.inr h
  have hS : va_S A s.heap s.heap [] := va_S.rf
  have hl := lv_entry ([.int p1]) (n := 1) (Nat.le_of_ble_eq_true rfl)
  rw [lg_entry_eq]
  generalize (lg_sl ([.int p1]) ++ List.replicate (1 - (lg_sl ([.int p1])).length) Slot.unset).toArray = ls at hl ⊢
  have hl : lv_has ls 1 [(0, .int p1)] := hl
  refine lv_iload_n hx hb dJ9_abs_0f7a4_0 rfl (lv_at hl 0 rfl) ?_
  refine lv_if_ge (tgt := 9) hx hb dJ9_abs_0f7a4_1 (by decide) (fun hc_1 => ?_) (fun hc_1 => ?_)
  · refine lv_iload_n hx hb dJ9_abs_0f7a4_9 rfl (lv_at hl 0 rfl) ?_
    exact W.iret (v := p1) hx hb hr (fun t ht hW => ⟨⟨p1, ws, rfl, hT, by rw [ht]; exact hP, by rw [hAe]; exact hD⟩, hS.F ht⟩) hS.2.2 dJ9_abs_0f7a4_10
  · refine lv_iload_n hx hb dJ9_abs_0f7a4_4 rfl (lv_at hl 0 rfl) ?_
    refine lv_ineg hx hb dJ9_abs_0f7a4_5 ?_
    refine lv_topi (fun x_2 _ => ?_)
    refine lv_goto (tgt := 10) hx hb dJ9_abs_0f7a4_6 (by decide) ?_
    exact W.iret (v := x_2) hx hb hr (fun t ht hW => ⟨⟨x_2, ws, rfl, hT, by rw [ht]; exact hP, by rw [hAe]; exact hD⟩, hS.F ht⟩) hS.2.2 dJ9_abs_0f7a4_10
theorem dX11_fades_0 : decode cX11_fades 0 = .ok (.aload_n 0, 1) := by decide +kernel
theorem dX11_fades_1 : decode cX11_fades 1 = .ok (.iload_n 1, 1) := by decide +kernel
theorem dX11_fades_2 : decode cX11_fades 2 = .ok (.bipush 18, 2) := by decide +kernel
theorem dX11_fades_4 : decode cX11_fades 4 = .ok (.invokevirtual 209, 3) := by decide +kernel
theorem dX11_fades_7 : decode cX11_fades 7 = .ok (.iload_n 2, 1) := by decide +kernel
theorem dX11_fades_8 : decode cX11_fades 8 = .ok (.invokestatic 242, 3) := by decide +kernel
theorem dX11_fades_11 : decode cX11_fades 11 = .ok (.iadd, 1) := by decide +kernel
theorem dX11_fades_12 : decode cX11_fades 12 = .ok (.istore_n 3, 1) := by decide +kernel
theorem dX11_fades_13 : decode cX11_fades 13 = .ok (.iload_n 3, 1) := by decide +kernel
theorem dX11_fades_14 : decode cX11_fades 14 = .ok (.aload_n 0, 1) := by decide +kernel
theorem dX11_fades_15 : decode cX11_fades 15 = .ok (.getfield 9, 3) := by decide +kernel
theorem dX11_fades_18 : decode cX11_fades 18 = .ok (.iconst 1, 1) := by decide +kernel
theorem dX11_fades_19 : decode cX11_fades 19 = .ok (.iaload, 1) := by decide +kernel
theorem dX11_fades_20 : decode cX11_fades 20 = .ok (.if_icmp .lt 43, 3) := by decide +kernel
theorem dX11_fades_23 : decode cX11_fades 23 = .ok (.iload_n 3, 1) := by decide +kernel
theorem dX11_fades_24 : decode cX11_fades 24 = .ok (.aload_n 0, 1) := by decide +kernel
theorem dX11_fades_25 : decode cX11_fades 25 = .ok (.getfield 9, 3) := by decide +kernel
theorem dX11_fades_28 : decode cX11_fades 28 = .ok (.iconst 1, 1) := by decide +kernel
theorem dX11_fades_29 : decode cX11_fades 29 = .ok (.iaload, 1) := by decide +kernel
theorem dX11_fades_30 : decode cX11_fades 30 = .ok (.isub, 1) := by decide +kernel
theorem dX11_fades_31 : decode cX11_fades 31 = .ok (.istore_n 3, 1) := by decide +kernel
theorem dX11_fades_32 : decode cX11_fades 32 = .ok (.aload_n 0, 1) := by decide +kernel
theorem dX11_fades_33 : decode cX11_fades 33 = .ok (.iload_n 1, 1) := by decide +kernel
theorem dX11_fades_34 : decode cX11_fades 34 = .ok (.bipush 7, 2) := by decide +kernel
theorem dX11_fades_36 : decode cX11_fades 36 = .ok (.aload_n 0, 1) := by decide +kernel
theorem dX11_fades_37 : decode cX11_fades 37 = .ok (.iload_n 1, 1) := by decide +kernel
theorem dX11_fades_38 : decode cX11_fades 38 = .ok (.bipush 12, 2) := by decide +kernel
theorem dX11_fades_40 : decode cX11_fades 40 = .ok (.invokevirtual 209, 3) := by decide +kernel
theorem dX11_fades_43 : decode cX11_fades 43 = .ok (.iconst 2, 1) := by decide +kernel
theorem dX11_fades_44 : decode cX11_fades 44 = .ok (.idiv, 1) := by decide +kernel
theorem dX11_fades_45 : decode cX11_fades 45 = .ok (.aload_n 0, 1) := by decide +kernel
theorem dX11_fades_46 : decode cX11_fades 46 = .ok (.iload_n 1, 1) := by decide +kernel
theorem dX11_fades_47 : decode cX11_fades 47 = .ok (.bipush 7, 2) := by decide +kernel
theorem dX11_fades_49 : decode cX11_fades 49 = .ok (.invokevirtual 209, 3) := by decide +kernel
theorem dX11_fades_52 : decode cX11_fades 52 = .ok (.iconst 1, 1) := by decide +kernel
theorem dX11_fades_53 : decode cX11_fades 53 = .ok (.isub, 1) := by decide +kernel
theorem dX11_fades_54 : decode cX11_fades 54 = .ok (.invokestatic 225, 3) := by decide +kernel
theorem dX11_fades_57 : decode cX11_fades 57 = .ok (.invokevirtual 234, 3) := by decide +kernel
theorem dX11_fades_60 : decode cX11_fades 60 = .ok (.goto (-47), 3) := by decide +kernel
theorem dX11_fades_63 : decode cX11_fades 63 = .ok (.aload_n 0, 1) := by decide +kernel
theorem dX11_fades_64 : decode cX11_fades 64 = .ok (.iload_n 1, 1) := by decide +kernel
theorem dX11_fades_65 : decode cX11_fades 65 = .ok (.bipush 18, 2) := by decide +kernel
theorem dX11_fades_67 : decode cX11_fades 67 = .ok (.iload_n 3, 1) := by decide +kernel
theorem dX11_fades_68 : decode cX11_fades 68 = .ok (.invokevirtual 234, 3) := by decide +kernel
theorem dX11_fades_71 : decode cX11_fades 71 = .ok (.return_, 1) := by decide +kernel
set_option maxRecDepth 100000 in
set_option maxHeartbeats 4000000 in
theorem m_X11_fades (l : Launch) (D : va_G) (ct : Nat → ClassId) (S : ty_S) (ws : va_W) (mo : Nat) (mw : Nat) (ma : Nat) (mf : Nat) (m0 : Nat) (m1 : Nat) (mu : Nat) (mv : Nat) (u0 : Nat) (u1 : Nat) (iz : Nat) (mb : Nat) (th : Int32) (mn : Int32) (mpt : Int32) (mbg : Int32) (mwr : Int32) (mwk : Int32) (mlf : Int32) (men : Int32) (f : Nat → Int32) (G : Nat → Int32) (cx : Int) (p1 : Int32) (p2 : Int32) (sz : Nat) (hT : ty_W ct S ws) (h_mu : S mu = some (.inr (1, 42))) (h_mv : S mv = some (.inr (1, 42))) (h_u0 : S u0 = some (.inr (1, 42))) (h_u1 : S u1 = some (.inr (1, 42))) (hR : rf_R G cx f) (hc : 0 ≤ p1.toInt ∧ p1.toInt < (G 9).toInt) : Met l yX11_fades (ws_ yX11_fades cX11_fades 4 none) ({ frames := 1, cells := 0, slots := 0, locals := 23 } : Room) (va_Pc [.ref mo, .int p1, .int p2] (cmP D ct sz ([(mo, .inr (11, [.ref mw, .ref ma, .ref mf, .ref m0, .ref m1, .ref mu, .ref mv, .ref u0, .ref u1, .ref iz, .int th, .ref mb, .int mn, .int mpt, .int mbg, .int mwr, .int mwk, .int mlf, .int men])), (mw, .inl (ct 0, 958, .inl f))] ++ ws))) (va_Qv (fun (u : va_W × (Nat → Int32)) => match u with | (u9, f1) => ty_W ct S u9 ∧ rf_R G cx f1 ∧ rf_sm f f1) (cmB D ([(mo, .inr (11, [.ref mw, .ref ma, .ref mf, .ref m0, .ref m1, .ref mu, .ref mv, .ref u0, .ref u1, .ref iz, .int th, .ref mb, .int mn, .int mpt, .int mbg, .int mwr, .int mwk, .int mlf, .int men])), (mw, .inl (ct 0, 958, .inl f))] ++ ws) sz (fun (u : va_W × (Nat → Int32)) => match u with | (u9, f1) => ([(mo, .inr (11, [.ref mw, .ref ma, .ref mf, .ref m0, .ref m1, .ref mu, .ref mv, .ref u0, .ref u1, .ref iz, .int th, .ref mb, .int mn, .int mpt, .int mbg, .int mwr, .int mwk, .int mlf, .int men])), (mw, .inl (ct 0, 958, .inl f1))] ++ u9))) (va_A ([(mo, .inr (11, [.ref mw, .ref ma, .ref mf, .ref m0, .ref m1, .ref mu, .ref mv, .ref u0, .ref u1, .ref iz, .int th, .ref mb, .int mn, .int mpt, .int mbg, .int mwr, .int mwk, .int mlf, .int men])), (mw, .inl (ct 0, 958, .inl f))] ++ ws) sz)) 0 0 (va_A ([(mo, .inr (11, [.ref mw, .ref ma, .ref mf, .ref m0, .ref m1, .ref mu, .ref mv, .ref u0, .ref u1, .ref iz, .int th, .ref mb, .int mn, .int mpt, .int mbg, .int mwr, .int mwk, .int mlf, .int men])), (mw, .inl (ct 0, 958, .inl f))] ++ ws) sz) := by
  refine Met.ofW (cc := cX11_fades) (maxL := 4) (ret := none) (by decide) rfl ?_
  intro p e s m args below meth c s₁ B hml hv
  obtain ⟨rfl, hsz, hP, hK, hD0, hX⟩ := hv
  have hx := B.exec
  have hb := B.bytes
  have hr := B.returns
  have hts := ws_all (atoms_spec (ws := ws_ yX11_fades cX11_fades 4 none) B.pre)
  have hown : s.vm.findClass RX11 = some m.cls := findClass_of_methodNamed B.named
  have hlocks := B.notSynchronized
  subst hsz
  have hD := hD0.self (sz := s.heap.size)
  generalize hAe : va_A ([(mo, .inr (11, [.ref mw, .ref ma, .ref mf, .ref m0, .ref m1, .ref mu, .ref mv, .ref u0, .ref u1, .ref iz, .int th, .ref mb, .int mn, .int mpt, .int mbg, .int mwr, .int mwk, .int mlf, .int men])), (mw, .inl (ct 0, 958, .inl f))] ++ ws) s.heap.size = A at hD hX ⊢
  have hA : ∀ q : Nat, s.heap.size ≤ q → A q := fun q h => by rw [← hAe]; exact Or.inr h
  have hS : va_S A s.heap s.heap [] := va_S.rf
  have hl := lv_entry ([.ref mo, .int p1, .int p2]) (n := 4) (Nat.le_of_ble_eq_true rfl)
  rw [lg_entry_eq]
  generalize (lg_sl ([.ref mo, .int p1, .int p2]) ++ List.replicate (4 - (lg_sl ([.ref mo, .int p1, .int p2])).length) Slot.unset).toArray = ls at hl ⊢
  have hl : lv_has ls 4 [(0, .ref mo), (1, .int p1), (2, .int p2)] := hl
  refine lv_aload_n hx hb dX11_fades_0 rfl (lv_at hl 0 rfl) ?_
  refine lv_iload_n hx hb dX11_fades_1 rfl (lv_at hl 1 rfl) ?_
  refine lv_bipush (v := 18) hx hb dX11_fades_2 (by decide) ?_
  refine ty_ki (wr := []) (wc := ([(mo, .inr (11, [.ref mw, .ref ma, .ref mf, .ref m0, .ref m1, .ref mu, .ref mv, .ref u0, .ref u1, .ref iz, .int th, .ref mb, .int mn, .int mpt, .int mbg, .int mwr, .int mwk, .int mlf, .int men])), (mw, .inl (ct 0, 958, .inl f))] ++ ws)) (va_runV (As := [.int p1, .int 18]) (rest := []) ⟨hx, hb, hml, hown, hts⟩ (m_of_18 l D ct S ws mo mw ma mf m0 m1 mu mv u0 u1 iz mb th mn mpt mbg mwr mwk mlf men f G cx p1 _ hT h_mu h_mv h_u0 h_u1 hR hc) (cm_V 2 hts kc_X11_of ki_RX11 kl_RX11_209 kv_X11_of kx_X11_of kd_X11_of ⟨Nat.le_of_ble_eq_true rfl, Nat.le_of_ble_eq_true rfl⟩) (ty_preE (wr := []) (wc := ([(mo, .inr (11, [.ref mw, .ref ma, .ref mf, .ref m0, .ref m1, .ref mu, .ref mv, .ref u0, .ref u1, .ref iz, .int th, .ref mb, .int mn, .int mpt, .int mbg, .int mwr, .int mwk, .int mlf, .int men])), (mw, .inl (ct 0, 958, .inl f))] ++ ws)) (ci := 11) (q0 := 0) hP hK hD hS hA hX rfl rfl) rfl rfl hl.1 rfl (lv_room (Nat.le_of_ble_eq_true rfl)) dX11_fades_4 ⟨Nat.le_of_ble_eq_true rfl, Nat.le_of_ble_eq_true rfl⟩) hP hD hS hA (fun r_1 u H locs hw_2 hP hD hS => ?_)
  obtain ⟨ws_3, rfl⟩ : ∃ z, z = u := ⟨_, rfl⟩
  obtain ⟨hT, rfl⟩ := hw_2
  have hP : va_P D vwCl ([(mo, .inr (11, [.ref mw, .ref ma, .ref mf, .ref m0, .ref m1, .ref mu, .ref mv, .ref u0, .ref u1, .ref iz, .int th, .ref mb, .int mn, .int mpt, .int mbg, .int mwr, .int mwk, .int mlf, .int men])), (mw, .inl (ct 0, 958, .inl f))] ++ ws_3) H := hP
  have hD : va_D A ([(mo, .inr (11, [.ref mw, .ref ma, .ref mf, .ref m0, .ref m1, .ref mu, .ref mv, .ref u0, .ref u1, .ref iz, .int th, .ref mb, .int mn, .int mpt, .int mbg, .int mwr, .int mwk, .int mlf, .int men])), (mw, .inl (ct 0, 958, .inl f))] ++ ws_3) := hD
  refine lv_iload_n hx hb dX11_fades_7 rfl (lv_at hl 2 rfl) ?_
  refine ty_ki (wr := [(mo, .inr (11, [.ref mw, .ref ma, .ref mf, .ref m0, .ref m1, .ref mu, .ref mv, .ref u0, .ref u1, .ref iz, .int th, .ref mb, .int mn, .int mpt, .int mbg, .int mwr, .int mwk, .int mlf, .int men])), (mw, .inl (ct 0, 958, .inl f))]) (wc := ([] ++ ws_3)) (va_runS (As := [.int p2]) (rest := [.int (rf_of f p1 18)]) ⟨hx, hb, hml, hown, hts⟩ (t_J9_abs_0f7a4 l D ct S ws_3 p2 _ hT) (cm_S 1 hts kc_J9_abs_0f7a4 ki_RJ9 kl_RX11_242 ks_J9_abs_0f7a4 kd_J9_abs_0f7a4 ⟨Nat.le_of_ble_eq_true rfl, Nat.le_of_ble_eq_true rfl⟩) (ty_preS (wr := [(mo, .inr (11, [.ref mw, .ref ma, .ref mf, .ref m0, .ref m1, .ref mu, .ref mv, .ref u0, .ref u1, .ref iz, .int th, .ref mb, .int mn, .int mpt, .int mbg, .int mwr, .int mwk, .int mlf, .int men])), (mw, .inl (ct 0, 958, .inl f))]) (wc := ([] ++ ws_3)) hP hK hD hS hA hX) rfl rfl hl.1 rfl (lv_room (Nat.le_of_ble_eq_true rfl)) dX11_fades_8 ⟨Nat.le_of_ble_eq_true rfl, Nat.le_of_ble_eq_true rfl⟩) hP hD hS hA (fun r_4 u H locs hw_5 hP hD hS => ?_)
  obtain ⟨ws_6, rfl⟩ : ∃ z, z = u := ⟨_, rfl⟩
  have hT := hw_5
  have hP : va_P D vwCl ([(mo, .inr (11, [.ref mw, .ref ma, .ref mf, .ref m0, .ref m1, .ref mu, .ref mv, .ref u0, .ref u1, .ref iz, .int th, .ref mb, .int mn, .int mpt, .int mbg, .int mwr, .int mwk, .int mlf, .int men])), (mw, .inl (ct 0, 958, .inl f))] ++ ws_6) H := hP
  have hD : va_D A ([(mo, .inr (11, [.ref mw, .ref ma, .ref mf, .ref m0, .ref m1, .ref mu, .ref mv, .ref u0, .ref u1, .ref iz, .int th, .ref mb, .int mn, .int mpt, .int mbg, .int mwr, .int mwk, .int mlf, .int men])), (mw, .inl (ct 0, 958, .inl f))] ++ ws_6) := hD
  refine lv_iadd hx hb dX11_fades_11 ?_
  refine lv_istore_n (lv' := [(3, .int ((rf_of f p1 18) + r_4)), (0, .ref mo), (1, .int p1), (2, .int p2)]) hx hb dX11_fades_12 rfl hl (by decide) rfl (fun ls hl => ?_)
  refine ty_loop (I := fun μ H locs ls => ∃ (ws : va_W) (y_7 : Int32) (f_8 : Nat → Int32), μ = y_7.toInt.toNat ∧ ty_W ct S ws ∧ va_P D vwCl ([(mo, .inr (11, [.ref mw, .ref ma, .ref mf, .ref m0, .ref m1, .ref mu, .ref mv, .ref u0, .ref u1, .ref iz, .int th, .ref mb, .int mn, .int mpt, .int mbg, .int mwr, .int mwk, .int mlf, .int men])), (mw, .inl (ct 0, 958, .inl f_8))] ++ ws) H ∧ va_D A ([(mo, .inr (11, [.ref mw, .ref ma, .ref mf, .ref m0, .ref m1, .ref mu, .ref mv, .ref u0, .ref u1, .ref iz, .int th, .ref mb, .int mn, .int mpt, .int mbg, .int mwr, .int mwk, .int mlf, .int men])), (mw, .inl (ct 0, 958, .inl f_8))] ++ ws) ∧ va_S A s.heap H locs ∧ lv_has ls 4 [(0, .ref mo), (1, .int p1), (2, .int p2), (3, .int y_7)] ∧ rf_R G cx f_8 ∧ rf_sm f f_8) ⟨_, ws_6, ((rf_of f p1 18) + r_4), f, rfl, hT, hP, hD, hS, (lv_sub hl [1, 2, 3, 0] rfl), hR, (rf_smr f)⟩ (fun μ H locs ls hI ih_13 => ?_)
  obtain ⟨ws, y_7, f_8, rfl, hT, hP, hD, hS, hl, hR_13, hM_13⟩ := hI
  refine lv_iload_n hx hb dX11_fades_13 rfl (lv_at hl 3 rfl) ?_
  refine lv_aload_n hx hb dX11_fades_14 rfl (lv_at hl 0 rfl) ?_
  refine va_get (v := .ref mw) (D := D) (ci := 11) (C := RX11) (T := TX11) (N := 19) hx hb hts in_X11 hown hK hP 0 rfl rfl 0 (by decide) (hts _ kl_RX11_9) (fun _ h9 => h9) rfl dX11_fades_15 ?_
  refine lv_iconst (v := 1) hx hb dX11_fades_18 (by decide) ?_
  refine va_iald hx hb hK hP 1 0 rfl rfl (cm_vin (by decide)) dX11_fades_19 ?_
  refine cm_cst (y := (f_8 1)) (by first | rfl | decide +kernel) ?_
  refine lv_icmp_lt (tgt := 63) hx hb dX11_fades_20 (by decide) (fun hc_9 => ?_) (fun hc_9 => ?_)
  · refine lv_aload_n hx hb dX11_fades_63 rfl (lv_at hl 0 rfl) ?_
    refine lv_iload_n hx hb dX11_fades_64 rfl (lv_at hl 1 rfl) ?_
    refine lv_bipush (v := 18) hx hb dX11_fades_65 (by decide) ?_
    refine lv_iload_n hx hb dX11_fades_67 rfl (lv_at hl 3 rfl) ?_
    refine ty_kv (wr := []) (wc := ([(mo, .inr (11, [.ref mw, .ref ma, .ref mf, .ref m0, .ref m1, .ref mu, .ref mv, .ref u0, .ref u1, .ref iz, .int th, .ref mb, .int mn, .int mpt, .int mbg, .int mwr, .int mwk, .int mlf, .int men])), (mw, .inl (ct 0, 958, .inl f_8))] ++ ws)) (va_runV (As := [.int p1, .int 18, .int y_7]) (rest := []) ⟨hx, hb, hml, hown, hts⟩ (m_put_18 l D ct S ws mo mw ma mf m0 m1 mu mv u0 u1 iz mb th mn mpt mbg mwr mwk mlf men f_8 G cx p1 y_7 _ hT h_mu h_mv h_u0 h_u1 hR_13 hc) (cm_V 3 hts kc_X11_put ki_RX11 kl_RX11_234 kv_X11_put kx_X11_put kd_X11_put ⟨Nat.le_of_ble_eq_true rfl, Nat.le_of_ble_eq_true rfl⟩) (ty_preE (wr := []) (wc := ([(mo, .inr (11, [.ref mw, .ref ma, .ref mf, .ref m0, .ref m1, .ref mu, .ref mv, .ref u0, .ref u1, .ref iz, .int th, .ref mb, .int mn, .int mpt, .int mbg, .int mwr, .int mwk, .int mlf, .int men])), (mw, .inl (ct 0, 958, .inl f_8))] ++ ws)) (ci := 11) (q0 := 0) hP hK hD hS hA hX rfl rfl) rfl rfl hl.1 rfl (lv_room (Nat.le_of_ble_eq_true rfl)) dX11_fades_68 ⟨Nat.le_of_ble_eq_true rfl, Nat.le_of_ble_eq_true rfl⟩) hP hD hS hA (fun u H locs hw_11 hP hD hS => ?_)
    obtain ⟨ws_12, f1_13⟩ := u
    obtain ⟨hT, hp_14⟩ := hw_11
    have hp_14 : rf_R G cx f1_13 ∧ rf_sm f_8 f1_13 ∧ f1_13 = upd f_8 (244 + 54 * p1.toInt.toNat + 18) y_7 := hp_14
    have hR_15 := hp_14.1
    have hM_16 := rf_smt hM_13 hp_14.2.1
    have hP : va_P D vwCl ([(mo, .inr (11, [.ref mw, .ref ma, .ref mf, .ref m0, .ref m1, .ref mu, .ref mv, .ref u0, .ref u1, .ref iz, .int th, .ref mb, .int mn, .int mpt, .int mbg, .int mwr, .int mwk, .int mlf, .int men])), (mw, .inl (ct 0, 958, .inl f1_13))] ++ ws_12) H := hP
    have hD : va_D A ([(mo, .inr (11, [.ref mw, .ref ma, .ref mf, .ref m0, .ref m1, .ref mu, .ref mv, .ref u0, .ref u1, .ref iz, .int th, .ref mb, .int mn, .int mpt, .int mbg, .int mwr, .int mwk, .int mlf, .int men])), (mw, .inl (ct 0, 958, .inl f1_13))] ++ ws_12) := hD
    exact W.vret hx hb hr (fun t ht hW => ⟨⟨(ws_12, f1_13), rfl, ⟨hT, ⟨hR_15, hM_16⟩⟩, by rw [ht]; exact hP, by rw [hAe]; exact hD⟩, hS.F ht⟩) hS.2.2 dX11_fades_71
  · refine lv_iload_n hx hb dX11_fades_23 rfl (lv_at hl 3 rfl) ?_
    refine lv_aload_n hx hb dX11_fades_24 rfl (lv_at hl 0 rfl) ?_
    refine va_get (v := .ref mw) (D := D) (ci := 11) (C := RX11) (T := TX11) (N := 19) hx hb hts in_X11 hown hK hP 0 rfl rfl 0 (by decide) (hts _ kl_RX11_9) (fun _ h9 => h9) rfl dX11_fades_25 ?_
    refine lv_iconst (v := 1) hx hb dX11_fades_28 (by decide) ?_
    refine va_iald hx hb hK hP 1 0 rfl rfl (cm_vin (by decide)) dX11_fades_29 ?_
    refine cm_cst (y := (f_8 1)) (by first | rfl | decide +kernel) ?_
    refine lv_isub hx hb dX11_fades_30 ?_
    refine lv_istore_n (lv' := [(3, .int (y_7 - (f_8 1))), (0, .ref mo), (1, .int p1), (2, .int p2)]) hx hb dX11_fades_31 rfl hl (by decide) rfl (fun ls hl => ?_)
    refine lv_aload_n hx hb dX11_fades_32 rfl (lv_at hl 1 rfl) ?_
    refine lv_iload_n hx hb dX11_fades_33 rfl (lv_at hl 2 rfl) ?_
    refine lv_bipush (v := 7) hx hb dX11_fades_34 (by decide) ?_
    refine lv_aload_n hx hb dX11_fades_36 rfl (lv_at hl 1 rfl) ?_
    refine lv_iload_n hx hb dX11_fades_37 rfl (lv_at hl 2 rfl) ?_
    refine lv_bipush (v := 12) hx hb dX11_fades_38 (by decide) ?_
    refine ty_ki (wr := []) (wc := ([(mo, .inr (11, [.ref mw, .ref ma, .ref mf, .ref m0, .ref m1, .ref mu, .ref mv, .ref u0, .ref u1, .ref iz, .int th, .ref mb, .int mn, .int mpt, .int mbg, .int mwr, .int mwk, .int mlf, .int men])), (mw, .inl (ct 0, 958, .inl f_8))] ++ ws)) (va_runV (As := [.int p1, .int 12]) (rest := [.int 7, .int p1, .ref mo]) ⟨hx, hb, hml, hown, hts⟩ (m_of_12 l D ct S ws mo mw ma mf m0 m1 mu mv u0 u1 iz mb th mn mpt mbg mwr mwk mlf men f_8 G cx p1 _ hT h_mu h_mv h_u0 h_u1 hR_13 hc) (cm_V 2 hts kc_X11_of ki_RX11 kl_RX11_209 kv_X11_of kx_X11_of kd_X11_of ⟨Nat.le_of_ble_eq_true rfl, Nat.le_of_ble_eq_true rfl⟩) (ty_preE (wr := []) (wc := ([(mo, .inr (11, [.ref mw, .ref ma, .ref mf, .ref m0, .ref m1, .ref mu, .ref mv, .ref u0, .ref u1, .ref iz, .int th, .ref mb, .int mn, .int mpt, .int mbg, .int mwr, .int mwk, .int mlf, .int men])), (mw, .inl (ct 0, 958, .inl f_8))] ++ ws)) (ci := 11) (q0 := 0) hP hK hD hS hA hX rfl rfl) rfl rfl hl.1 rfl (lv_room (Nat.le_of_ble_eq_true rfl)) dX11_fades_40 ⟨Nat.le_of_ble_eq_true rfl, Nat.le_of_ble_eq_true rfl⟩) hP hD hS hA (fun r_17 u H locs hw_18 hP hD hS => ?_)
    obtain ⟨ws_19, rfl⟩ : ∃ z, z = u := ⟨_, rfl⟩
    obtain ⟨hT, rfl⟩ := hw_18
    have hP : va_P D vwCl ([(mo, .inr (11, [.ref mw, .ref ma, .ref mf, .ref m0, .ref m1, .ref mu, .ref mv, .ref u0, .ref u1, .ref iz, .int th, .ref mb, .int mn, .int mpt, .int mbg, .int mwr, .int mwk, .int mlf, .int men])), (mw, .inl (ct 0, 958, .inl f_8))] ++ ws_19) H := hP
    have hD : va_D A ([(mo, .inr (11, [.ref mw, .ref ma, .ref mf, .ref m0, .ref m1, .ref mu, .ref mv, .ref u0, .ref u1, .ref iz, .int th, .ref mb, .int mn, .int mpt, .int mbg, .int mwr, .int mwk, .int mlf, .int men])), (mw, .inl (ct 0, 958, .inl f_8))] ++ ws_19) := hD
    refine lv_iconst (v := 2) hx hb dX11_fades_43 (by decide) ?_
    refine lv_idiv hx hb dX11_fades_44 (by decide) ?_
    refine lv_aload_n hx hb dX11_fades_45 rfl (lv_at hl 1 rfl) ?_
    refine lv_iload_n hx hb dX11_fades_46 rfl (lv_at hl 2 rfl) ?_
    refine lv_bipush (v := 7) hx hb dX11_fades_47 (by decide) ?_
    refine ty_ki (wr := []) (wc := ([(mo, .inr (11, [.ref mw, .ref ma, .ref mf, .ref m0, .ref m1, .ref mu, .ref mv, .ref u0, .ref u1, .ref iz, .int th, .ref mb, .int mn, .int mpt, .int mbg, .int mwr, .int mwk, .int mlf, .int men])), (mw, .inl (ct 0, 958, .inl f_8))] ++ ws_19)) (va_runV (As := [.int p1, .int 7]) (rest := [.int ((rf_of f_8 p1 12) / 2), .int 7, .int p1, .ref mo]) ⟨hx, hb, hml, hown, hts⟩ (m_of_7 l D ct S ws_19 mo mw ma mf m0 m1 mu mv u0 u1 iz mb th mn mpt mbg mwr mwk mlf men f_8 G cx p1 _ hT h_mu h_mv h_u0 h_u1 hR_13 hc) (cm_V 2 hts kc_X11_of ki_RX11 kl_RX11_209 kv_X11_of kx_X11_of kd_X11_of ⟨Nat.le_of_ble_eq_true rfl, Nat.le_of_ble_eq_true rfl⟩) (ty_preE (wr := []) (wc := ([(mo, .inr (11, [.ref mw, .ref ma, .ref mf, .ref m0, .ref m1, .ref mu, .ref mv, .ref u0, .ref u1, .ref iz, .int th, .ref mb, .int mn, .int mpt, .int mbg, .int mwr, .int mwk, .int mlf, .int men])), (mw, .inl (ct 0, 958, .inl f_8))] ++ ws_19)) (ci := 11) (q0 := 0) hP hK hD hS hA hX rfl rfl) rfl rfl hl.1 rfl (lv_room (Nat.le_of_ble_eq_true rfl)) dX11_fades_49 ⟨Nat.le_of_ble_eq_true rfl, Nat.le_of_ble_eq_true rfl⟩) hP hD hS hA (fun r_20 u H locs hw_21 hP hD hS => ?_)
    obtain ⟨ws_22, rfl⟩ : ∃ z, z = u := ⟨_, rfl⟩
    obtain ⟨hT, rfl⟩ := hw_21
    have hP : va_P D vwCl ([(mo, .inr (11, [.ref mw, .ref ma, .ref mf, .ref m0, .ref m1, .ref mu, .ref mv, .ref u0, .ref u1, .ref iz, .int th, .ref mb, .int mn, .int mpt, .int mbg, .int mwr, .int mwk, .int mlf, .int men])), (mw, .inl (ct 0, 958, .inl f_8))] ++ ws_22) H := hP
    have hD : va_D A ([(mo, .inr (11, [.ref mw, .ref ma, .ref mf, .ref m0, .ref m1, .ref mu, .ref mv, .ref u0, .ref u1, .ref iz, .int th, .ref mb, .int mn, .int mpt, .int mbg, .int mwr, .int mwk, .int mlf, .int men])), (mw, .inl (ct 0, 958, .inl f_8))] ++ ws_22) := hD
    refine lv_iconst (v := 1) hx hb dX11_fades_52 (by decide) ?_
    refine lv_isub hx hb dX11_fades_53 ?_
    refine va_mmax hx hb (hml.trans hl.1.symm) hown (hts _ kl_RX11_225) (hts _ jm_max_s) (hts _ ki_RJ9) (hts _ jm_max_c) (Nat.le_of_ble_eq_true rfl) (Nat.le_of_ble_eq_true rfl) (Nat.le_of_ble_eq_true rfl) (Nat.le_of_ble_eq_true rfl) dX11_fades_54 ?_
    refine ty_kv (wr := []) (wc := ([(mo, .inr (11, [.ref mw, .ref ma, .ref mf, .ref m0, .ref m1, .ref mu, .ref mv, .ref u0, .ref u1, .ref iz, .int th, .ref mb, .int mn, .int mpt, .int mbg, .int mwr, .int mwk, .int mlf, .int men])), (mw, .inl (ct 0, 958, .inl f_8))] ++ ws_22)) (va_runV (As := [.int p1, .int 7, .int (if ((rf_of f_8 p1 12) / 2) < ((rf_of f_8 p1 7) - 1) then ((rf_of f_8 p1 7) - 1) else ((rf_of f_8 p1 12) / 2))]) (rest := []) ⟨hx, hb, hml, hown, hts⟩ (m_put_7 l D ct S ws_22 mo mw ma mf m0 m1 mu mv u0 u1 iz mb th mn mpt mbg mwr mwk mlf men f_8 G cx p1 (if ((rf_of f_8 p1 12) / 2) < ((rf_of f_8 p1 7) - 1) then ((rf_of f_8 p1 7) - 1) else ((rf_of f_8 p1 12) / 2)) _ hT h_mu h_mv h_u0 h_u1 hR_13 hc (rf_fp hR_13 hc)) (cm_V 3 hts kc_X11_put ki_RX11 kl_RX11_234 kv_X11_put kx_X11_put kd_X11_put ⟨Nat.le_of_ble_eq_true rfl, Nat.le_of_ble_eq_true rfl⟩) (ty_preE (wr := []) (wc := ([(mo, .inr (11, [.ref mw, .ref ma, .ref mf, .ref m0, .ref m1, .ref mu, .ref mv, .ref u0, .ref u1, .ref iz, .int th, .ref mb, .int mn, .int mpt, .int mbg, .int mwr, .int mwk, .int mlf, .int men])), (mw, .inl (ct 0, 958, .inl f_8))] ++ ws_22)) (ci := 11) (q0 := 0) hP hK hD hS hA hX rfl rfl) rfl rfl hl.1 rfl (lv_room (Nat.le_of_ble_eq_true rfl)) dX11_fades_57 ⟨Nat.le_of_ble_eq_true rfl, Nat.le_of_ble_eq_true rfl⟩) hP hD hS hA (fun u H locs hw_24 hP hD hS => ?_)
    obtain ⟨ws_25, f1_26⟩ := u
    obtain ⟨hT, hp_27⟩ := hw_24
    have hp_27 : rf_R G cx f1_26 ∧ rf_sm f_8 f1_26 ∧ f1_26 = upd f_8 (244 + 54 * p1.toInt.toNat + 7) (if ((rf_of f_8 p1 12) / 2) < ((rf_of f_8 p1 7) - 1) then ((rf_of f_8 p1 7) - 1) else ((rf_of f_8 p1 12) / 2)) := hp_27
    have hR_28 := hp_27.1
    have hM_29 := rf_smt hM_13 hp_27.2.1
    have hP : va_P D vwCl ([(mo, .inr (11, [.ref mw, .ref ma, .ref mf, .ref m0, .ref m1, .ref mu, .ref mv, .ref u0, .ref u1, .ref iz, .int th, .ref mb, .int mn, .int mpt, .int mbg, .int mwr, .int mwk, .int mlf, .int men])), (mw, .inl (ct 0, 958, .inl f1_26))] ++ ws_25) H := hP
    have hD : va_D A ([(mo, .inr (11, [.ref mw, .ref ma, .ref mf, .ref m0, .ref m1, .ref mu, .ref mv, .ref u0, .ref u1, .ref iz, .int th, .ref mb, .int mn, .int mpt, .int mbg, .int mwr, .int mwk, .int mlf, .int men])), (mw, .inl (ct 0, 958, .inl f1_26))] ++ ws_25) := hD
    refine lv_goto (tgt := 13) hx hb dX11_fades_60 (by decide) ?_
    exact ih_13 _ _ _ _ (rf_fd hc_9 (rf_set hR_13 hc).1) ⟨ws_25, (y_7 - (f_8 1)), f1_26, rfl, hT, hP, hD, hS, (lv_sub hl [1, 2, 3, 0] rfl), hR_28, hM_29⟩
theorem dX11_warms_0 : decode cX11_warms 0 = .ok (.aload_n 0, 1) := by decide +kernel
theorem dX11_warms_1 : decode cX11_warms 1 = .ok (.iload_n 1, 1) := by decide +kernel
theorem dX11_warms_2 : decode cX11_warms 2 = .ok (.bipush 17, 2) := by decide +kernel
theorem dX11_warms_4 : decode cX11_warms 4 = .ok (.invokevirtual 209, 3) := by decide +kernel
theorem dX11_warms_7 : decode cX11_warms 7 = .ok (.iload_n 2, 1) := by decide +kernel
theorem dX11_warms_8 : decode cX11_warms 8 = .ok (.iload_n 2, 1) := by decide +kernel
theorem dX11_warms_9 : decode cX11_warms 9 = .ok (.imul, 1) := by decide +kernel
theorem dX11_warms_10 : decode cX11_warms 10 = .ok (.sipush 1000, 3) := by decide +kernel
theorem dX11_warms_13 : decode cX11_warms 13 = .ok (.idiv, 1) := by decide +kernel
theorem dX11_warms_14 : decode cX11_warms 14 = .ok (.aload_n 0, 1) := by decide +kernel
theorem dX11_warms_15 : decode cX11_warms 15 = .ok (.iload_n 1, 1) := by decide +kernel
theorem dX11_warms_16 : decode cX11_warms 16 = .ok (.bipush 13, 2) := by decide +kernel
theorem dX11_warms_18 : decode cX11_warms 18 = .ok (.invokevirtual 209, 3) := by decide +kernel
theorem dX11_warms_21 : decode cX11_warms 21 = .ok (.imul, 1) := by decide +kernel
theorem dX11_warms_22 : decode cX11_warms 22 = .ok (.sipush 1000, 3) := by decide +kernel
theorem dX11_warms_25 : decode cX11_warms 25 = .ok (.idiv, 1) := by decide +kernel
theorem dX11_warms_26 : decode cX11_warms 26 = .ok (.iadd, 1) := by decide +kernel
theorem dX11_warms_27 : decode cX11_warms 27 = .ok (.aload_n 0, 1) := by decide +kernel
theorem dX11_warms_28 : decode cX11_warms 28 = .ok (.iload_n 1, 1) := by decide +kernel
theorem dX11_warms_29 : decode cX11_warms 29 = .ok (.bipush 9, 2) := by decide +kernel
theorem dX11_warms_31 : decode cX11_warms 31 = .ok (.invokevirtual 209, 3) := by decide +kernel
theorem dX11_warms_34 : decode cX11_warms 34 = .ok (.aload_n 0, 1) := by decide +kernel
theorem dX11_warms_35 : decode cX11_warms 35 = .ok (.getfield 9, 3) := by decide +kernel
theorem dX11_warms_38 : decode cX11_warms 38 = .ok (.bipush 7, 2) := by decide +kernel
theorem dX11_warms_40 : decode cX11_warms 40 = .ok (.iaload, 1) := by decide +kernel
theorem dX11_warms_41 : decode cX11_warms 41 = .ok (.isub, 1) := by decide +kernel
theorem dX11_warms_42 : decode cX11_warms 42 = .ok (.aload_n 0, 1) := by decide +kernel
theorem dX11_warms_43 : decode cX11_warms 43 = .ok (.getfield 9, 3) := by decide +kernel
theorem dX11_warms_46 : decode cX11_warms 46 = .ok (.iconst 3, 1) := by decide +kernel
theorem dX11_warms_47 : decode cX11_warms 47 = .ok (.iaload, 1) := by decide +kernel
theorem dX11_warms_48 : decode cX11_warms 48 = .ok (.imul, 1) := by decide +kernel
theorem dX11_warms_49 : decode cX11_warms 49 = .ok (.isub, 1) := by decide +kernel
theorem dX11_warms_50 : decode cX11_warms 50 = .ok (.istore_n 3, 1) := by decide +kernel
theorem dX11_warms_51 : decode cX11_warms 51 = .ok (.aload_n 0, 1) := by decide +kernel
theorem dX11_warms_52 : decode cX11_warms 52 = .ok (.iload_n 1, 1) := by decide +kernel
theorem dX11_warms_53 : decode cX11_warms 53 = .ok (.bipush 9, 2) := by decide +kernel
theorem dX11_warms_55 : decode cX11_warms 55 = .ok (.aload_n 0, 1) := by decide +kernel
theorem dX11_warms_56 : decode cX11_warms 56 = .ok (.iload_n 1, 1) := by decide +kernel
theorem dX11_warms_57 : decode cX11_warms 57 = .ok (.bipush 9, 2) := by decide +kernel
theorem dX11_warms_59 : decode cX11_warms 59 = .ok (.invokevirtual 209, 3) := by decide +kernel
theorem dX11_warms_62 : decode cX11_warms 62 = .ok (.iload_n 3, 1) := by decide +kernel
theorem dX11_warms_63 : decode cX11_warms 63 = .ok (.aload_n 0, 1) := by decide +kernel
theorem dX11_warms_64 : decode cX11_warms 64 = .ok (.getfield 9, 3) := by decide +kernel
theorem dX11_warms_67 : decode cX11_warms 67 = .ok (.iconst 2, 1) := by decide +kernel
theorem dX11_warms_68 : decode cX11_warms 68 = .ok (.iaload, 1) := by decide +kernel
theorem dX11_warms_69 : decode cX11_warms 69 = .ok (.idiv, 1) := by decide +kernel
theorem dX11_warms_70 : decode cX11_warms 70 = .ok (.iadd, 1) := by decide +kernel
theorem dX11_warms_71 : decode cX11_warms 71 = .ok (.invokevirtual 234, 3) := by decide +kernel
theorem dX11_warms_74 : decode cX11_warms 74 = .ok (.aload_n 0, 1) := by decide +kernel
theorem dX11_warms_75 : decode cX11_warms 75 = .ok (.iload_n 1, 1) := by decide +kernel
theorem dX11_warms_76 : decode cX11_warms 76 = .ok (.bipush 17, 2) := by decide +kernel
theorem dX11_warms_78 : decode cX11_warms 78 = .ok (.iload_n 3, 1) := by decide +kernel
theorem dX11_warms_79 : decode cX11_warms 79 = .ok (.aload_n 0, 1) := by decide +kernel
theorem dX11_warms_80 : decode cX11_warms 80 = .ok (.getfield 9, 3) := by decide +kernel
theorem dX11_warms_83 : decode cX11_warms 83 = .ok (.iconst 2, 1) := by decide +kernel
theorem dX11_warms_84 : decode cX11_warms 84 = .ok (.iaload, 1) := by decide +kernel
theorem dX11_warms_85 : decode cX11_warms 85 = .ok (.irem, 1) := by decide +kernel
theorem dX11_warms_86 : decode cX11_warms 86 = .ok (.invokevirtual 234, 3) := by decide +kernel
theorem dX11_warms_89 : decode cX11_warms 89 = .ok (.return_, 1) := by decide +kernel
set_option maxRecDepth 100000 in
set_option maxHeartbeats 4000000 in
theorem m_X11_warms (l : Launch) (D : va_G) (ct : Nat → ClassId) (S : ty_S) (ws : va_W) (mo : Nat) (mw : Nat) (ma : Nat) (mf : Nat) (m0 : Nat) (m1 : Nat) (mu : Nat) (mv : Nat) (u0 : Nat) (u1 : Nat) (iz : Nat) (mb : Nat) (th : Int32) (mn : Int32) (mpt : Int32) (mbg : Int32) (mwr : Int32) (mwk : Int32) (mlf : Int32) (men : Int32) (f : Nat → Int32) (G : Nat → Int32) (cx : Int) (p1 : Int32) (p2 : Int32) (sz : Nat) (hT : ty_W ct S ws) (h_mu : S mu = some (.inr (1, 42))) (h_mv : S mv = some (.inr (1, 42))) (h_u0 : S u0 = some (.inr (1, 42))) (h_u1 : S u1 = some (.inr (1, 42))) (hR : rf_R G cx f) (hc : 0 ≤ p1.toInt ∧ p1.toInt < (G 9).toInt) : Met l yX11_warms (ws_ yX11_warms cX11_warms 4 none) ({ frames := 1, cells := 0, slots := 0, locals := 23 } : Room) (va_Pc [.ref mo, .int p1, .int p2] (cmP D ct sz ([(mo, .inr (11, [.ref mw, .ref ma, .ref mf, .ref m0, .ref m1, .ref mu, .ref mv, .ref u0, .ref u1, .ref iz, .int th, .ref mb, .int mn, .int mpt, .int mbg, .int mwr, .int mwk, .int mlf, .int men])), (mw, .inl (ct 0, 958, .inl f))] ++ ws))) (va_Qv (fun (u : va_W × (Nat → Int32)) => match u with | (u9, f1) => ty_W ct S u9 ∧ rf_R G cx f1 ∧ rf_sm f f1) (cmB D ([(mo, .inr (11, [.ref mw, .ref ma, .ref mf, .ref m0, .ref m1, .ref mu, .ref mv, .ref u0, .ref u1, .ref iz, .int th, .ref mb, .int mn, .int mpt, .int mbg, .int mwr, .int mwk, .int mlf, .int men])), (mw, .inl (ct 0, 958, .inl f))] ++ ws) sz (fun (u : va_W × (Nat → Int32)) => match u with | (u9, f1) => ([(mo, .inr (11, [.ref mw, .ref ma, .ref mf, .ref m0, .ref m1, .ref mu, .ref mv, .ref u0, .ref u1, .ref iz, .int th, .ref mb, .int mn, .int mpt, .int mbg, .int mwr, .int mwk, .int mlf, .int men])), (mw, .inl (ct 0, 958, .inl f1))] ++ u9))) (va_A ([(mo, .inr (11, [.ref mw, .ref ma, .ref mf, .ref m0, .ref m1, .ref mu, .ref mv, .ref u0, .ref u1, .ref iz, .int th, .ref mb, .int mn, .int mpt, .int mbg, .int mwr, .int mwk, .int mlf, .int men])), (mw, .inl (ct 0, 958, .inl f))] ++ ws) sz)) 0 0 (va_A ([(mo, .inr (11, [.ref mw, .ref ma, .ref mf, .ref m0, .ref m1, .ref mu, .ref mv, .ref u0, .ref u1, .ref iz, .int th, .ref mb, .int mn, .int mpt, .int mbg, .int mwr, .int mwk, .int mlf, .int men])), (mw, .inl (ct 0, 958, .inl f))] ++ ws) sz) := by
  refine Met.ofW (cc := cX11_warms) (maxL := 4) (ret := none) (by decide) rfl ?_
  intro p e s m args below meth c s₁ B hml hv
  obtain ⟨rfl, hsz, hP, hK, hD0, hX⟩ := hv
  have hx := B.exec
  have hb := B.bytes
  have hr := B.returns
  have hts := ws_all (atoms_spec (ws := ws_ yX11_warms cX11_warms 4 none) B.pre)
  have hown : s.vm.findClass RX11 = some m.cls := findClass_of_methodNamed B.named
  have hlocks := B.notSynchronized
  subst hsz
  have hD := hD0.self (sz := s.heap.size)
  generalize hAe : va_A ([(mo, .inr (11, [.ref mw, .ref ma, .ref mf, .ref m0, .ref m1, .ref mu, .ref mv, .ref u0, .ref u1, .ref iz, .int th, .ref mb, .int mn, .int mpt, .int mbg, .int mwr, .int mwk, .int mlf, .int men])), (mw, .inl (ct 0, 958, .inl f))] ++ ws) s.heap.size = A at hD hX ⊢
  have hA : ∀ q : Nat, s.heap.size ≤ q → A q := fun q h => by rw [← hAe]; exact Or.inr h
  have hS : va_S A s.heap s.heap [] := va_S.rf
  have hl := lv_entry ([.ref mo, .int p1, .int p2]) (n := 4) (Nat.le_of_ble_eq_true rfl)
  rw [lg_entry_eq]
  generalize (lg_sl ([.ref mo, .int p1, .int p2]) ++ List.replicate (4 - (lg_sl ([.ref mo, .int p1, .int p2])).length) Slot.unset).toArray = ls at hl ⊢
  have hl : lv_has ls 4 [(0, .ref mo), (1, .int p1), (2, .int p2)] := hl
  refine lv_aload_n hx hb dX11_warms_0 rfl (lv_at hl 0 rfl) ?_
  refine lv_iload_n hx hb dX11_warms_1 rfl (lv_at hl 1 rfl) ?_
  refine lv_bipush (v := 17) hx hb dX11_warms_2 (by decide) ?_
  refine ty_ki (wr := []) (wc := ([(mo, .inr (11, [.ref mw, .ref ma, .ref mf, .ref m0, .ref m1, .ref mu, .ref mv, .ref u0, .ref u1, .ref iz, .int th, .ref mb, .int mn, .int mpt, .int mbg, .int mwr, .int mwk, .int mlf, .int men])), (mw, .inl (ct 0, 958, .inl f))] ++ ws)) (va_runV (As := [.int p1, .int 17]) (rest := []) ⟨hx, hb, hml, hown, hts⟩ (m_of_17 l D ct S ws mo mw ma mf m0 m1 mu mv u0 u1 iz mb th mn mpt mbg mwr mwk mlf men f G cx p1 _ hT h_mu h_mv h_u0 h_u1 hR hc) (cm_V 2 hts kc_X11_of ki_RX11 kl_RX11_209 kv_X11_of kx_X11_of kd_X11_of ⟨Nat.le_of_ble_eq_true rfl, Nat.le_of_ble_eq_true rfl⟩) (ty_preE (wr := []) (wc := ([(mo, .inr (11, [.ref mw, .ref ma, .ref mf, .ref m0, .ref m1, .ref mu, .ref mv, .ref u0, .ref u1, .ref iz, .int th, .ref mb, .int mn, .int mpt, .int mbg, .int mwr, .int mwk, .int mlf, .int men])), (mw, .inl (ct 0, 958, .inl f))] ++ ws)) (ci := 11) (q0 := 0) hP hK hD hS hA hX rfl rfl) rfl rfl hl.1 rfl (lv_room (Nat.le_of_ble_eq_true rfl)) dX11_warms_4 ⟨Nat.le_of_ble_eq_true rfl, Nat.le_of_ble_eq_true rfl⟩) hP hD hS hA (fun r_1 u H locs hw_2 hP hD hS => ?_)
  obtain ⟨ws_3, rfl⟩ : ∃ z, z = u := ⟨_, rfl⟩
  obtain ⟨hT, rfl⟩ := hw_2
  have hP : va_P D vwCl ([(mo, .inr (11, [.ref mw, .ref ma, .ref mf, .ref m0, .ref m1, .ref mu, .ref mv, .ref u0, .ref u1, .ref iz, .int th, .ref mb, .int mn, .int mpt, .int mbg, .int mwr, .int mwk, .int mlf, .int men])), (mw, .inl (ct 0, 958, .inl f))] ++ ws_3) H := hP
  have hD : va_D A ([(mo, .inr (11, [.ref mw, .ref ma, .ref mf, .ref m0, .ref m1, .ref mu, .ref mv, .ref u0, .ref u1, .ref iz, .int th, .ref mb, .int mn, .int mpt, .int mbg, .int mwr, .int mwk, .int mlf, .int men])), (mw, .inl (ct 0, 958, .inl f))] ++ ws_3) := hD
  refine lv_iload_n hx hb dX11_warms_7 rfl (lv_at hl 2 rfl) ?_
  refine lv_iload_n hx hb dX11_warms_8 rfl (lv_at hl 2 rfl) ?_
  refine lv_imul hx hb dX11_warms_9 ?_
  refine lv_topi (fun x_4 _ => ?_)
  refine lv_sipush (v := 1000) hx hb dX11_warms_10 (by decide) ?_
  refine lv_idiv hx hb dX11_warms_13 (by decide) ?_
  refine lv_topi (fun x_5 _ => ?_)
  refine lv_aload_n hx hb dX11_warms_14 rfl (lv_at hl 0 rfl) ?_
  refine lv_iload_n hx hb dX11_warms_15 rfl (lv_at hl 1 rfl) ?_
  refine lv_bipush (v := 13) hx hb dX11_warms_16 (by decide) ?_
  refine ty_ki (wr := []) (wc := ([(mo, .inr (11, [.ref mw, .ref ma, .ref mf, .ref m0, .ref m1, .ref mu, .ref mv, .ref u0, .ref u1, .ref iz, .int th, .ref mb, .int mn, .int mpt, .int mbg, .int mwr, .int mwk, .int mlf, .int men])), (mw, .inl (ct 0, 958, .inl f))] ++ ws_3)) (va_runV (As := [.int p1, .int 13]) (rest := [.int x_5, .int (rf_of f p1 17)]) ⟨hx, hb, hml, hown, hts⟩ (m_of_13 l D ct S ws_3 mo mw ma mf m0 m1 mu mv u0 u1 iz mb th mn mpt mbg mwr mwk mlf men f G cx p1 _ hT h_mu h_mv h_u0 h_u1 hR hc) (cm_V 2 hts kc_X11_of ki_RX11 kl_RX11_209 kv_X11_of kx_X11_of kd_X11_of ⟨Nat.le_of_ble_eq_true rfl, Nat.le_of_ble_eq_true rfl⟩) (ty_preE (wr := []) (wc := ([(mo, .inr (11, [.ref mw, .ref ma, .ref mf, .ref m0, .ref m1, .ref mu, .ref mv, .ref u0, .ref u1, .ref iz, .int th, .ref mb, .int mn, .int mpt, .int mbg, .int mwr, .int mwk, .int mlf, .int men])), (mw, .inl (ct 0, 958, .inl f))] ++ ws_3)) (ci := 11) (q0 := 0) hP hK hD hS hA hX rfl rfl) rfl rfl hl.1 rfl (lv_room (Nat.le_of_ble_eq_true rfl)) dX11_warms_18 ⟨Nat.le_of_ble_eq_true rfl, Nat.le_of_ble_eq_true rfl⟩) hP hD hS hA (fun r_6 u H locs hw_7 hP hD hS => ?_)
  obtain ⟨ws_8, rfl⟩ : ∃ z, z = u := ⟨_, rfl⟩
  obtain ⟨hT, rfl⟩ := hw_7
  have hP : va_P D vwCl ([(mo, .inr (11, [.ref mw, .ref ma, .ref mf, .ref m0, .ref m1, .ref mu, .ref mv, .ref u0, .ref u1, .ref iz, .int th, .ref mb, .int mn, .int mpt, .int mbg, .int mwr, .int mwk, .int mlf, .int men])), (mw, .inl (ct 0, 958, .inl f))] ++ ws_8) H := hP
  have hD : va_D A ([(mo, .inr (11, [.ref mw, .ref ma, .ref mf, .ref m0, .ref m1, .ref mu, .ref mv, .ref u0, .ref u1, .ref iz, .int th, .ref mb, .int mn, .int mpt, .int mbg, .int mwr, .int mwk, .int mlf, .int men])), (mw, .inl (ct 0, 958, .inl f))] ++ ws_8) := hD
  refine lv_imul hx hb dX11_warms_21 ?_
  refine lv_topi (fun x_9 _ => ?_)
  refine lv_sipush (v := 1000) hx hb dX11_warms_22 (by decide) ?_
  refine lv_idiv hx hb dX11_warms_25 (by decide) ?_
  refine lv_topi (fun x_10 _ => ?_)
  refine lv_iadd hx hb dX11_warms_26 ?_
  refine lv_topi (fun x_11 _ => ?_)
  refine lv_aload_n hx hb dX11_warms_27 rfl (lv_at hl 0 rfl) ?_
  refine lv_iload_n hx hb dX11_warms_28 rfl (lv_at hl 1 rfl) ?_
  refine lv_bipush (v := 9) hx hb dX11_warms_29 (by decide) ?_
  refine ty_ki (wr := []) (wc := ([(mo, .inr (11, [.ref mw, .ref ma, .ref mf, .ref m0, .ref m1, .ref mu, .ref mv, .ref u0, .ref u1, .ref iz, .int th, .ref mb, .int mn, .int mpt, .int mbg, .int mwr, .int mwk, .int mlf, .int men])), (mw, .inl (ct 0, 958, .inl f))] ++ ws_8)) (va_runV (As := [.int p1, .int 9]) (rest := [.int x_11]) ⟨hx, hb, hml, hown, hts⟩ (m_of_9 l D ct S ws_8 mo mw ma mf m0 m1 mu mv u0 u1 iz mb th mn mpt mbg mwr mwk mlf men f G cx p1 _ hT h_mu h_mv h_u0 h_u1 hR hc) (cm_V 2 hts kc_X11_of ki_RX11 kl_RX11_209 kv_X11_of kx_X11_of kd_X11_of ⟨Nat.le_of_ble_eq_true rfl, Nat.le_of_ble_eq_true rfl⟩) (ty_preE (wr := []) (wc := ([(mo, .inr (11, [.ref mw, .ref ma, .ref mf, .ref m0, .ref m1, .ref mu, .ref mv, .ref u0, .ref u1, .ref iz, .int th, .ref mb, .int mn, .int mpt, .int mbg, .int mwr, .int mwk, .int mlf, .int men])), (mw, .inl (ct 0, 958, .inl f))] ++ ws_8)) (ci := 11) (q0 := 0) hP hK hD hS hA hX rfl rfl) rfl rfl hl.1 rfl (lv_room (Nat.le_of_ble_eq_true rfl)) dX11_warms_31 ⟨Nat.le_of_ble_eq_true rfl, Nat.le_of_ble_eq_true rfl⟩) hP hD hS hA (fun r_12 u H locs hw_13 hP hD hS => ?_)
  obtain ⟨ws_14, rfl⟩ : ∃ z, z = u := ⟨_, rfl⟩
  obtain ⟨hT, rfl⟩ := hw_13
  have hP : va_P D vwCl ([(mo, .inr (11, [.ref mw, .ref ma, .ref mf, .ref m0, .ref m1, .ref mu, .ref mv, .ref u0, .ref u1, .ref iz, .int th, .ref mb, .int mn, .int mpt, .int mbg, .int mwr, .int mwk, .int mlf, .int men])), (mw, .inl (ct 0, 958, .inl f))] ++ ws_14) H := hP
  have hD : va_D A ([(mo, .inr (11, [.ref mw, .ref ma, .ref mf, .ref m0, .ref m1, .ref mu, .ref mv, .ref u0, .ref u1, .ref iz, .int th, .ref mb, .int mn, .int mpt, .int mbg, .int mwr, .int mwk, .int mlf, .int men])), (mw, .inl (ct 0, 958, .inl f))] ++ ws_14) := hD
  refine lv_aload_n hx hb dX11_warms_34 rfl (lv_at hl 0 rfl) ?_
  refine va_get (v := .ref mw) (D := D) (ci := 11) (C := RX11) (T := TX11) (N := 19) hx hb hts in_X11 hown hK hP 0 rfl rfl 0 (by decide) (hts _ kl_RX11_9) (fun _ h9 => h9) rfl dX11_warms_35 ?_
  refine lv_bipush (v := 7) hx hb dX11_warms_38 (by decide) ?_
  refine va_iald hx hb hK hP 1 0 rfl rfl (cm_vin (by decide)) dX11_warms_40 ?_
  refine cm_cst (y := (f 7)) (by first | rfl | decide +kernel) ?_
  refine lv_isub hx hb dX11_warms_41 ?_
  refine lv_topi (fun x_15 _ => ?_)
  refine lv_aload_n hx hb dX11_warms_42 rfl (lv_at hl 0 rfl) ?_
  refine va_get (v := .ref mw) (D := D) (ci := 11) (C := RX11) (T := TX11) (N := 19) hx hb hts in_X11 hown hK hP 0 rfl rfl 0 (by decide) (hts _ kl_RX11_9) (fun _ h9 => h9) rfl dX11_warms_43 ?_
  refine lv_iconst (v := 3) hx hb dX11_warms_46 (by decide) ?_
  refine va_iald hx hb hK hP 1 0 rfl rfl (cm_vin (by decide)) dX11_warms_47 ?_
  refine cm_cst (y := (f 3)) (by first | rfl | decide +kernel) ?_
  refine lv_imul hx hb dX11_warms_48 ?_
  refine lv_topi (fun x_16 _ => ?_)
  refine lv_isub hx hb dX11_warms_49 ?_
  refine lv_topi (fun x_17 _ => ?_)
  refine lv_istore_n (lv' := [(3, .int x_17), (0, .ref mo), (1, .int p1), (2, .int p2)]) hx hb dX11_warms_50 rfl hl (by decide) rfl (fun ls hl => ?_)
  refine lv_aload_n hx hb dX11_warms_51 rfl (lv_at hl 1 rfl) ?_
  refine lv_iload_n hx hb dX11_warms_52 rfl (lv_at hl 2 rfl) ?_
  refine lv_bipush (v := 9) hx hb dX11_warms_53 (by decide) ?_
  refine lv_aload_n hx hb dX11_warms_55 rfl (lv_at hl 1 rfl) ?_
  refine lv_iload_n hx hb dX11_warms_56 rfl (lv_at hl 2 rfl) ?_
  refine lv_bipush (v := 9) hx hb dX11_warms_57 (by decide) ?_
  refine ty_ki (wr := []) (wc := ([(mo, .inr (11, [.ref mw, .ref ma, .ref mf, .ref m0, .ref m1, .ref mu, .ref mv, .ref u0, .ref u1, .ref iz, .int th, .ref mb, .int mn, .int mpt, .int mbg, .int mwr, .int mwk, .int mlf, .int men])), (mw, .inl (ct 0, 958, .inl f))] ++ ws_14)) (va_runV (As := [.int p1, .int 9]) (rest := [.int 9, .int p1, .ref mo]) ⟨hx, hb, hml, hown, hts⟩ (m_of_9 l D ct S ws_14 mo mw ma mf m0 m1 mu mv u0 u1 iz mb th mn mpt mbg mwr mwk mlf men f G cx p1 _ hT h_mu h_mv h_u0 h_u1 hR hc) (cm_V 2 hts kc_X11_of ki_RX11 kl_RX11_209 kv_X11_of kx_X11_of kd_X11_of ⟨Nat.le_of_ble_eq_true rfl, Nat.le_of_ble_eq_true rfl⟩) (ty_preE (wr := []) (wc := ([(mo, .inr (11, [.ref mw, .ref ma, .ref mf, .ref m0, .ref m1, .ref mu, .ref mv, .ref u0, .ref u1, .ref iz, .int th, .ref mb, .int mn, .int mpt, .int mbg, .int mwr, .int mwk, .int mlf, .int men])), (mw, .inl (ct 0, 958, .inl f))] ++ ws_14)) (ci := 11) (q0 := 0) hP hK hD hS hA hX rfl rfl) rfl rfl hl.1 rfl (lv_room (Nat.le_of_ble_eq_true rfl)) dX11_warms_59 ⟨Nat.le_of_ble_eq_true rfl, Nat.le_of_ble_eq_true rfl⟩) hP hD hS hA (fun r_18 u H locs hw_19 hP hD hS => ?_)
  obtain ⟨ws_20, rfl⟩ : ∃ z, z = u := ⟨_, rfl⟩
  obtain ⟨hT, rfl⟩ := hw_19
  have hP : va_P D vwCl ([(mo, .inr (11, [.ref mw, .ref ma, .ref mf, .ref m0, .ref m1, .ref mu, .ref mv, .ref u0, .ref u1, .ref iz, .int th, .ref mb, .int mn, .int mpt, .int mbg, .int mwr, .int mwk, .int mlf, .int men])), (mw, .inl (ct 0, 958, .inl f))] ++ ws_20) H := hP
  have hD : va_D A ([(mo, .inr (11, [.ref mw, .ref ma, .ref mf, .ref m0, .ref m1, .ref mu, .ref mv, .ref u0, .ref u1, .ref iz, .int th, .ref mb, .int mn, .int mpt, .int mbg, .int mwr, .int mwk, .int mlf, .int men])), (mw, .inl (ct 0, 958, .inl f))] ++ ws_20) := hD
  refine lv_iload_n hx hb dX11_warms_62 rfl (lv_at hl 0 rfl) ?_
  refine lv_aload_n hx hb dX11_warms_63 rfl (lv_at hl 1 rfl) ?_
  refine va_get (v := .ref mw) (D := D) (ci := 11) (C := RX11) (T := TX11) (N := 19) hx hb hts in_X11 hown hK hP 0 rfl rfl 0 (by decide) (hts _ kl_RX11_9) (fun _ h9 => h9) rfl dX11_warms_64 ?_
  refine lv_iconst (v := 2) hx hb dX11_warms_67 (by decide) ?_
  refine va_iald hx hb hK hP 1 0 rfl rfl (cm_vin (by decide)) dX11_warms_68 ?_
  refine cm_cst (y := (f 2)) (by first | rfl | decide +kernel) ?_
  refine lv_idiv hx hb dX11_warms_69 (rf_nz (rf_set hR hc).2) ?_
  refine lv_topi (fun x_21 _ => ?_)
  refine lv_iadd hx hb dX11_warms_70 ?_
  refine lv_topi (fun x_22 _ => ?_)
  refine ty_kv (wr := []) (wc := ([(mo, .inr (11, [.ref mw, .ref ma, .ref mf, .ref m0, .ref m1, .ref mu, .ref mv, .ref u0, .ref u1, .ref iz, .int th, .ref mb, .int mn, .int mpt, .int mbg, .int mwr, .int mwk, .int mlf, .int men])), (mw, .inl (ct 0, 958, .inl f))] ++ ws_20)) (va_runV (As := [.int p1, .int 9, .int x_22]) (rest := []) ⟨hx, hb, hml, hown, hts⟩ (m_put_9 l D ct S ws_20 mo mw ma mf m0 m1 mu mv u0 u1 iz mb th mn mpt mbg mwr mwk mlf men f G cx p1 x_22 _ hT h_mu h_mv h_u0 h_u1 hR hc) (cm_V 3 hts kc_X11_put ki_RX11 kl_RX11_234 kv_X11_put kx_X11_put kd_X11_put ⟨Nat.le_of_ble_eq_true rfl, Nat.le_of_ble_eq_true rfl⟩) (ty_preE (wr := []) (wc := ([(mo, .inr (11, [.ref mw, .ref ma, .ref mf, .ref m0, .ref m1, .ref mu, .ref mv, .ref u0, .ref u1, .ref iz, .int th, .ref mb, .int mn, .int mpt, .int mbg, .int mwr, .int mwk, .int mlf, .int men])), (mw, .inl (ct 0, 958, .inl f))] ++ ws_20)) (ci := 11) (q0 := 0) hP hK hD hS hA hX rfl rfl) rfl rfl hl.1 rfl (lv_room (Nat.le_of_ble_eq_true rfl)) dX11_warms_71 ⟨Nat.le_of_ble_eq_true rfl, Nat.le_of_ble_eq_true rfl⟩) hP hD hS hA (fun u H locs hw_24 hP hD hS => ?_)
  obtain ⟨ws_25, f1_26⟩ := u
  obtain ⟨hT, hp_27⟩ := hw_24
  have hp_27 : rf_R G cx f1_26 ∧ rf_sm f f1_26 ∧ f1_26 = upd f (244 + 54 * p1.toInt.toNat + 9) x_22 := hp_27
  have hR_28 := hp_27.1
  have hM_29 := rf_smt (rf_smr f) hp_27.2.1
  have hP : va_P D vwCl ([(mo, .inr (11, [.ref mw, .ref ma, .ref mf, .ref m0, .ref m1, .ref mu, .ref mv, .ref u0, .ref u1, .ref iz, .int th, .ref mb, .int mn, .int mpt, .int mbg, .int mwr, .int mwk, .int mlf, .int men])), (mw, .inl (ct 0, 958, .inl f1_26))] ++ ws_25) H := hP
  have hD : va_D A ([(mo, .inr (11, [.ref mw, .ref ma, .ref mf, .ref m0, .ref m1, .ref mu, .ref mv, .ref u0, .ref u1, .ref iz, .int th, .ref mb, .int mn, .int mpt, .int mbg, .int mwr, .int mwk, .int mlf, .int men])), (mw, .inl (ct 0, 958, .inl f1_26))] ++ ws_25) := hD
  refine lv_aload_n hx hb dX11_warms_74 rfl (lv_at hl 1 rfl) ?_
  refine lv_iload_n hx hb dX11_warms_75 rfl (lv_at hl 2 rfl) ?_
  refine lv_bipush (v := 17) hx hb dX11_warms_76 (by decide) ?_
  refine lv_iload_n hx hb dX11_warms_78 rfl (lv_at hl 0 rfl) ?_
  refine lv_aload_n hx hb dX11_warms_79 rfl (lv_at hl 1 rfl) ?_
  refine va_get (v := .ref mw) (D := D) (ci := 11) (C := RX11) (T := TX11) (N := 19) hx hb hts in_X11 hown hK hP 0 rfl rfl 0 (by decide) (hts _ kl_RX11_9) (fun _ h9 => h9) rfl dX11_warms_80 ?_
  refine lv_iconst (v := 2) hx hb dX11_warms_83 (by decide) ?_
  refine va_iald hx hb hK hP 1 0 rfl rfl (cm_vin (by decide)) dX11_warms_84 ?_
  refine cm_cst (y := (f1_26 2)) (by first | rfl | decide +kernel) ?_
  refine lv_irem hx hb dX11_warms_85 (rf_nz (rf_set hR_28 hc).2) ?_
  refine lv_topi (fun x_30 _ => ?_)
  refine ty_kv (wr := []) (wc := ([(mo, .inr (11, [.ref mw, .ref ma, .ref mf, .ref m0, .ref m1, .ref mu, .ref mv, .ref u0, .ref u1, .ref iz, .int th, .ref mb, .int mn, .int mpt, .int mbg, .int mwr, .int mwk, .int mlf, .int men])), (mw, .inl (ct 0, 958, .inl f1_26))] ++ ws_25)) (va_runV (As := [.int p1, .int 17, .int x_30]) (rest := []) ⟨hx, hb, hml, hown, hts⟩ (m_put_17 l D ct S ws_25 mo mw ma mf m0 m1 mu mv u0 u1 iz mb th mn mpt mbg mwr mwk mlf men f1_26 G cx p1 x_30 _ hT h_mu h_mv h_u0 h_u1 hR_28 hc) (cm_V 3 hts kc_X11_put ki_RX11 kl_RX11_234 kv_X11_put kx_X11_put kd_X11_put ⟨Nat.le_of_ble_eq_true rfl, Nat.le_of_ble_eq_true rfl⟩) (ty_preE (wr := []) (wc := ([(mo, .inr (11, [.ref mw, .ref ma, .ref mf, .ref m0, .ref m1, .ref mu, .ref mv, .ref u0, .ref u1, .ref iz, .int th, .ref mb, .int mn, .int mpt, .int mbg, .int mwr, .int mwk, .int mlf, .int men])), (mw, .inl (ct 0, 958, .inl f1_26))] ++ ws_25)) (ci := 11) (q0 := 0) hP hK hD hS hA hX rfl rfl) rfl rfl hl.1 rfl (lv_room (Nat.le_of_ble_eq_true rfl)) dX11_warms_86 ⟨Nat.le_of_ble_eq_true rfl, Nat.le_of_ble_eq_true rfl⟩) hP hD hS hA (fun u H locs hw_32 hP hD hS => ?_)
  obtain ⟨ws_33, f1_34⟩ := u
  obtain ⟨hT, hp_35⟩ := hw_32
  have hp_35 : rf_R G cx f1_34 ∧ rf_sm f1_26 f1_34 ∧ f1_34 = upd f1_26 (244 + 54 * p1.toInt.toNat + 17) x_30 := hp_35
  have hR_36 := hp_35.1
  have hM_37 := rf_smt hM_29 hp_35.2.1
  have hP : va_P D vwCl ([(mo, .inr (11, [.ref mw, .ref ma, .ref mf, .ref m0, .ref m1, .ref mu, .ref mv, .ref u0, .ref u1, .ref iz, .int th, .ref mb, .int mn, .int mpt, .int mbg, .int mwr, .int mwk, .int mlf, .int men])), (mw, .inl (ct 0, 958, .inl f1_34))] ++ ws_33) H := hP
  have hD : va_D A ([(mo, .inr (11, [.ref mw, .ref ma, .ref mf, .ref m0, .ref m1, .ref mu, .ref mv, .ref u0, .ref u1, .ref iz, .int th, .ref mb, .int mn, .int mpt, .int mbg, .int mwr, .int mwk, .int mlf, .int men])), (mw, .inl (ct 0, 958, .inl f1_34))] ++ ws_33) := hD
  exact W.vret hx hb hr (fun t ht hW => ⟨⟨(ws_33, f1_34), rfl, ⟨hT, ⟨hR_36, hM_37⟩⟩, by rw [ht]; exact hP, by rw [hAe]; exact hD⟩, hS.F ht⟩) hS.2.2 dX11_warms_89
theorem dX11_isOver_0 : decode cX11_isOver 0 = .ok (.aload_n 0, 1) := by decide +kernel
theorem dX11_isOver_1 : decode cX11_isOver 1 = .ok (.iload_n 1, 1) := by decide +kernel
theorem dX11_isOver_2 : decode cX11_isOver 2 = .ok (.iconst 0, 1) := by decide +kernel
theorem dX11_isOver_3 : decode cX11_isOver 3 = .ok (.invokevirtual 228, 3) := by decide +kernel
theorem dX11_isOver_6 : decode cX11_isOver 6 = .ok (.tableswitch 99 0 2 #[26, 47, 68], 26) := by decide +kernel
theorem dX11_isOver_32 : decode cX11_isOver 32 = .ok (.aload_n 0, 1) := by decide +kernel
theorem dX11_isOver_33 : decode cX11_isOver 33 = .ok (.iload_n 1, 1) := by decide +kernel
theorem dX11_isOver_34 : decode cX11_isOver 34 = .ok (.iconst 5, 1) := by decide +kernel
theorem dX11_isOver_35 : decode cX11_isOver 35 = .ok (.invokevirtual 209, 3) := by decide +kernel
theorem dX11_isOver_38 : decode cX11_isOver 38 = .ok (.aload_n 0, 1) := by decide +kernel
theorem dX11_isOver_39 : decode cX11_isOver 39 = .ok (.iload_n 1, 1) := by decide +kernel
theorem dX11_isOver_40 : decode cX11_isOver 40 = .ok (.iconst 2, 1) := by decide +kernel
theorem dX11_isOver_41 : decode cX11_isOver 41 = .ok (.invokevirtual 228, 3) := by decide +kernel
theorem dX11_isOver_44 : decode cX11_isOver 44 = .ok (.if_icmp .lt 7, 3) := by decide +kernel
theorem dX11_isOver_47 : decode cX11_isOver 47 = .ok (.iconst 1, 1) := by decide +kernel
theorem dX11_isOver_48 : decode cX11_isOver 48 = .ok (.goto 4, 3) := by decide +kernel
theorem dX11_isOver_51 : decode cX11_isOver 51 = .ok (.iconst 0, 1) := by decide +kernel
theorem dX11_isOver_52 : decode cX11_isOver 52 = .ok (.ireturn, 1) := by decide +kernel
theorem dX11_isOver_53 : decode cX11_isOver 53 = .ok (.aload_n 0, 1) := by decide +kernel
theorem dX11_isOver_54 : decode cX11_isOver 54 = .ok (.iload_n 1, 1) := by decide +kernel
theorem dX11_isOver_55 : decode cX11_isOver 55 = .ok (.iconst 4, 1) := by decide +kernel
theorem dX11_isOver_56 : decode cX11_isOver 56 = .ok (.invokevirtual 209, 3) := by decide +kernel
theorem dX11_isOver_59 : decode cX11_isOver 59 = .ok (.aload_n 0, 1) := by decide +kernel
theorem dX11_isOver_60 : decode cX11_isOver 60 = .ok (.iload_n 1, 1) := by decide +kernel
theorem dX11_isOver_61 : decode cX11_isOver 61 = .ok (.iconst 2, 1) := by decide +kernel
theorem dX11_isOver_62 : decode cX11_isOver 62 = .ok (.invokevirtual 228, 3) := by decide +kernel
theorem dX11_isOver_65 : decode cX11_isOver 65 = .ok (.if_icmp .gt 7, 3) := by decide +kernel
theorem dX11_isOver_68 : decode cX11_isOver 68 = .ok (.iconst 1, 1) := by decide +kernel
theorem dX11_isOver_69 : decode cX11_isOver 69 = .ok (.goto 4, 3) := by decide +kernel
theorem dX11_isOver_72 : decode cX11_isOver 72 = .ok (.iconst 0, 1) := by decide +kernel
theorem dX11_isOver_73 : decode cX11_isOver 73 = .ok (.ireturn, 1) := by decide +kernel
theorem dX11_isOver_74 : decode cX11_isOver 74 = .ok (.aload_n 0, 1) := by decide +kernel
theorem dX11_isOver_75 : decode cX11_isOver 75 = .ok (.iload_n 1, 1) := by decide +kernel
theorem dX11_isOver_76 : decode cX11_isOver 76 = .ok (.iconst 5, 1) := by decide +kernel
theorem dX11_isOver_77 : decode cX11_isOver 77 = .ok (.invokevirtual 209, 3) := by decide +kernel
theorem dX11_isOver_80 : decode cX11_isOver 80 = .ok (.aload_n 0, 1) := by decide +kernel
theorem dX11_isOver_81 : decode cX11_isOver 81 = .ok (.iload_n 1, 1) := by decide +kernel
theorem dX11_isOver_82 : decode cX11_isOver 82 = .ok (.iconst 2, 1) := by decide +kernel
theorem dX11_isOver_83 : decode cX11_isOver 83 = .ok (.invokevirtual 228, 3) := by decide +kernel
theorem dX11_isOver_86 : decode cX11_isOver 86 = .ok (.if_icmp .le 13, 3) := by decide +kernel
theorem dX11_isOver_89 : decode cX11_isOver 89 = .ok (.aload_n 0, 1) := by decide +kernel
theorem dX11_isOver_90 : decode cX11_isOver 90 = .ok (.iload_n 1, 1) := by decide +kernel
theorem dX11_isOver_91 : decode cX11_isOver 91 = .ok (.bipush 6, 2) := by decide +kernel
theorem dX11_isOver_93 : decode cX11_isOver 93 = .ok (.invokevirtual 209, 3) := by decide +kernel
theorem dX11_isOver_96 : decode cX11_isOver 96 = .ok (.ifCond .ne 7, 3) := by decide +kernel
theorem dX11_isOver_99 : decode cX11_isOver 99 = .ok (.iconst 1, 1) := by decide +kernel
theorem dX11_isOver_100 : decode cX11_isOver 100 = .ok (.goto 4, 3) := by decide +kernel
theorem dX11_isOver_103 : decode cX11_isOver 103 = .ok (.iconst 0, 1) := by decide +kernel
theorem dX11_isOver_104 : decode cX11_isOver 104 = .ok (.ireturn, 1) := by decide +kernel
theorem dX11_isOver_105 : decode cX11_isOver 105 = .ok (.aload_n 0, 1) := by decide +kernel
theorem dX11_isOver_106 : decode cX11_isOver 106 = .ok (.iload_n 1, 1) := by decide +kernel
theorem dX11_isOver_107 : decode cX11_isOver 107 = .ok (.iconst 3, 1) := by decide +kernel
theorem dX11_isOver_108 : decode cX11_isOver 108 = .ok (.invokevirtual 209, 3) := by decide +kernel
theorem dX11_isOver_111 : decode cX11_isOver 111 = .ok (.aload_n 0, 1) := by decide +kernel
theorem dX11_isOver_112 : decode cX11_isOver 112 = .ok (.iload_n 1, 1) := by decide +kernel
theorem dX11_isOver_113 : decode cX11_isOver 113 = .ok (.iconst 1, 1) := by decide +kernel
theorem dX11_isOver_114 : decode cX11_isOver 114 = .ok (.invokevirtual 228, 3) := by decide +kernel
theorem dX11_isOver_117 : decode cX11_isOver 117 = .ok (.if_icmp .lt 7, 3) := by decide +kernel
theorem dX11_isOver_120 : decode cX11_isOver 120 = .ok (.iconst 1, 1) := by decide +kernel
theorem dX11_isOver_121 : decode cX11_isOver 121 = .ok (.goto 4, 3) := by decide +kernel
theorem dX11_isOver_124 : decode cX11_isOver 124 = .ok (.iconst 0, 1) := by decide +kernel
theorem dX11_isOver_125 : decode cX11_isOver 125 = .ok (.ireturn, 1) := by decide +kernel
set_option maxRecDepth 100000 in
set_option maxHeartbeats 4000000 in
theorem m_X11_isOver (l : Launch) (D : va_G) (ct : Nat → ClassId) (S : ty_S) (ws : va_W) (mo : Nat) (mw : Nat) (ma : Nat) (mf : Nat) (m0 : Nat) (m1 : Nat) (mu : Nat) (mv : Nat) (u0 : Nat) (u1 : Nat) (iz : Nat) (mb : Nat) (th : Int32) (mn : Int32) (mpt : Int32) (mbg : Int32) (mwr : Int32) (mwk : Int32) (mlf : Int32) (men : Int32) (f : Nat → Int32) (G : Nat → Int32) (cx : Int) (p1 : Int32) (sz : Nat) (hT : ty_W ct S ws) (h_mu : S mu = some (.inr (1, 42))) (h_mv : S mv = some (.inr (1, 42))) (h_u0 : S u0 = some (.inr (1, 42))) (h_u1 : S u1 = some (.inr (1, 42))) (hR : rf_R G cx f) (hc : 0 ≤ p1.toInt ∧ p1.toInt < (G 9).toInt) (ho : rf_on G f p1) : Met l yX11_isOver (ws_ yX11_isOver cX11_isOver 2 (some .boolean)) ({ frames := 2, cells := 0, slots := 0, locals := 45 } : Room) (va_Pc [.ref mo, .int p1] (cmP D ct sz ([(mo, .inr (11, [.ref mw, .ref ma, .ref mf, .ref m0, .ref m1, .ref mu, .ref mv, .ref u0, .ref u1, .ref iz, .int th, .ref mb, .int mn, .int mpt, .int mbg, .int mwr, .int mwk, .int mlf, .int men])), (mw, .inl (ct 0, 958, .inl f))] ++ ws))) (va_Qi (fun (r : Int32) (u9 : va_W) => ty_W ct S u9) (cmB D ([(mo, .inr (11, [.ref mw, .ref ma, .ref mf, .ref m0, .ref m1, .ref mu, .ref mv, .ref u0, .ref u1, .ref iz, .int th, .ref mb, .int mn, .int mpt, .int mbg, .int mwr, .int mwk, .int mlf, .int men])), (mw, .inl (ct 0, 958, .inl f))] ++ ws) sz (fun (u9 : va_W) => ([(mo, .inr (11, [.ref mw, .ref ma, .ref mf, .ref m0, .ref m1, .ref mu, .ref mv, .ref u0, .ref u1, .ref iz, .int th, .ref mb, .int mn, .int mpt, .int mbg, .int mwr, .int mwk, .int mlf, .int men])), (mw, .inl (ct 0, 958, .inl f))] ++ u9))) (va_A ([(mo, .inr (11, [.ref mw, .ref ma, .ref mf, .ref m0, .ref m1, .ref mu, .ref mv, .ref u0, .ref u1, .ref iz, .int th, .ref mb, .int mn, .int mpt, .int mbg, .int mwr, .int mwk, .int mlf, .int men])), (mw, .inl (ct 0, 958, .inl f))] ++ ws) sz)) 0 0 (va_A ([(mo, .inr (11, [.ref mw, .ref ma, .ref mf, .ref m0, .ref m1, .ref mu, .ref mv, .ref u0, .ref u1, .ref iz, .int th, .ref mb, .int mn, .int mpt, .int mbg, .int mwr, .int mwk, .int mlf, .int men])), (mw, .inl (ct 0, 958, .inl f))] ++ ws) sz) := by
  refine Met.ofW (cc := cX11_isOver) (maxL := 2) (ret := (some .boolean)) (by decide) rfl ?_
  intro p e s m args below meth c s₁ B hml hv
  obtain ⟨rfl, hsz, hP, hK, hD0, hX⟩ := hv
  have hx := B.exec
  have hb := B.bytes
  have hr := B.returns
  have hts := ws_all (atoms_spec (ws := ws_ yX11_isOver cX11_isOver 2 (some .boolean)) B.pre)
  have hown : s.vm.findClass RX11 = some m.cls := findClass_of_methodNamed B.named
  have hlocks := B.notSynchronized
  subst hsz
  have hD := hD0.self (sz := s.heap.size)
  generalize hAe : va_A ([(mo, .inr (11, [.ref mw, .ref ma, .ref mf, .ref m0, .ref m1, .ref mu, .ref mv, .ref u0, .ref u1, .ref iz, .int th, .ref mb, .int mn, .int mpt, .int mbg, .int mwr, .int mwk, .int mlf, .int men])), (mw, .inl (ct 0, 958, .inl f))] ++ ws) s.heap.size = A at hD hX ⊢
  have hA : ∀ q : Nat, s.heap.size ≤ q → A q := fun q h => by rw [← hAe]; exact Or.inr h
  have hS : va_S A s.heap s.heap [] := va_S.rf
  have hl := lv_entry ([.ref mo, .int p1]) (n := 2) (Nat.le_of_ble_eq_true rfl)
  rw [lg_entry_eq]
  generalize (lg_sl ([.ref mo, .int p1]) ++ List.replicate (2 - (lg_sl ([.ref mo, .int p1])).length) Slot.unset).toArray = ls at hl ⊢
  have hl : lv_has ls 2 [(0, .ref mo), (1, .int p1)] := hl
  refine lv_aload_n hx hb dX11_isOver_0 rfl (lv_at hl 0 rfl) ?_
  refine lv_iload_n hx hb dX11_isOver_1 rfl (lv_at hl 1 rfl) ?_
  refine lv_iconst (v := 0) hx hb dX11_isOver_2 (by decide) ?_
  refine ty_ki (wr := []) (wc := ([(mo, .inr (11, [.ref mw, .ref ma, .ref mf, .ref m0, .ref m1, .ref mu, .ref mv, .ref u0, .ref u1, .ref iz, .int th, .ref mb, .int mn, .int mpt, .int mbg, .int mwr, .int mwk, .int mlf, .int men])), (mw, .inl (ct 0, 958, .inl f))] ++ ws)) (va_runV (As := [.int p1, .int 0]) (rest := []) ⟨hx, hb, hml, hown, hts⟩ (m_step_0 l D ct S ws mo mw ma mf m0 m1 mu mv u0 u1 iz mb th mn mpt mbg mwr mwk mlf men f G cx p1 _ hT h_mu h_mv h_u0 h_u1 hR hc ho) (cm_V 2 hts kc_X11_step ki_RX11 kl_RX11_228 kv_X11_step kx_X11_step kd_X11_step ⟨Nat.le_of_ble_eq_true rfl, Nat.le_of_ble_eq_true rfl⟩) (ty_preE (wr := []) (wc := ([(mo, .inr (11, [.ref mw, .ref ma, .ref mf, .ref m0, .ref m1, .ref mu, .ref mv, .ref u0, .ref u1, .ref iz, .int th, .ref mb, .int mn, .int mpt, .int mbg, .int mwr, .int mwk, .int mlf, .int men])), (mw, .inl (ct 0, 958, .inl f))] ++ ws)) (ci := 11) (q0 := 0) hP hK hD hS hA hX rfl rfl) rfl rfl hl.1 rfl (lv_room (Nat.le_of_ble_eq_true rfl)) dX11_isOver_3 ⟨Nat.le_of_ble_eq_true rfl, Nat.le_of_ble_eq_true rfl⟩) hP hD hS hA (fun r_1 u H locs hw_2 hP hD hS => ?_)
  obtain ⟨ws_3, rfl⟩ : ∃ z, z = u := ⟨_, rfl⟩
  obtain ⟨hT, rfl⟩ := hw_2
  have hP : va_P D vwCl ([(mo, .inr (11, [.ref mw, .ref ma, .ref mf, .ref m0, .ref m1, .ref mu, .ref mv, .ref u0, .ref u1, .ref iz, .int th, .ref mb, .int mn, .int mpt, .int mbg, .int mwr, .int mwk, .int mlf, .int men])), (mw, .inl (ct 0, 958, .inl f))] ++ ws_3) H := hP
  have hD : va_D A ([(mo, .inr (11, [.ref mw, .ref ma, .ref mf, .ref m0, .ref m1, .ref mu, .ref mv, .ref u0, .ref u1, .ref iz, .int th, .ref mb, .int mn, .int mpt, .int mbg, .int mwr, .int mwk, .int mlf, .int men])), (mw, .inl (ct 0, 958, .inl f))] ++ ws_3) := hD
  by_cases hk_4 : (rf_st3 f p1 0) = 0
  · refine cm_cst hk_4 (lv_tableIn (off := 26) (tgt := 32) hx hb dX11_isOver_6 (by decide) (by decide) (by decide) (by decide) ?_)
    refine lv_aload_n hx hb dX11_isOver_32 rfl (lv_at hl 0 rfl) ?_
    refine lv_iload_n hx hb dX11_isOver_33 rfl (lv_at hl 1 rfl) ?_
    refine lv_iconst (v := 5) hx hb dX11_isOver_34 (by decide) ?_
    refine ty_ki (wr := []) (wc := ([(mo, .inr (11, [.ref mw, .ref ma, .ref mf, .ref m0, .ref m1, .ref mu, .ref mv, .ref u0, .ref u1, .ref iz, .int th, .ref mb, .int mn, .int mpt, .int mbg, .int mwr, .int mwk, .int mlf, .int men])), (mw, .inl (ct 0, 958, .inl f))] ++ ws_3)) (va_runV (As := [.int p1, .int 5]) (rest := []) ⟨hx, hb, hml, hown, hts⟩ (m_of_5 l D ct S ws_3 mo mw ma mf m0 m1 mu mv u0 u1 iz mb th mn mpt mbg mwr mwk mlf men f G cx p1 _ hT h_mu h_mv h_u0 h_u1 hR hc) (cm_V 2 hts kc_X11_of ki_RX11 kl_RX11_209 kv_X11_of kx_X11_of kd_X11_of ⟨Nat.le_of_ble_eq_true rfl, Nat.le_of_ble_eq_true rfl⟩) (ty_preE (wr := []) (wc := ([(mo, .inr (11, [.ref mw, .ref ma, .ref mf, .ref m0, .ref m1, .ref mu, .ref mv, .ref u0, .ref u1, .ref iz, .int th, .ref mb, .int mn, .int mpt, .int mbg, .int mwr, .int mwk, .int mlf, .int men])), (mw, .inl (ct 0, 958, .inl f))] ++ ws_3)) (ci := 11) (q0 := 0) hP hK hD hS hA hX rfl rfl) rfl rfl hl.1 rfl (lv_room (Nat.le_of_ble_eq_true rfl)) dX11_isOver_35 ⟨Nat.le_of_ble_eq_true rfl, Nat.le_of_ble_eq_true rfl⟩) hP hD hS hA (fun r_5 u H locs hw_6 hP hD hS => ?_)
    obtain ⟨ws_7, rfl⟩ : ∃ z, z = u := ⟨_, rfl⟩
    obtain ⟨hT, rfl⟩ := hw_6
    have hP : va_P D vwCl ([(mo, .inr (11, [.ref mw, .ref ma, .ref mf, .ref m0, .ref m1, .ref mu, .ref mv, .ref u0, .ref u1, .ref iz, .int th, .ref mb, .int mn, .int mpt, .int mbg, .int mwr, .int mwk, .int mlf, .int men])), (mw, .inl (ct 0, 958, .inl f))] ++ ws_7) H := hP
    have hD : va_D A ([(mo, .inr (11, [.ref mw, .ref ma, .ref mf, .ref m0, .ref m1, .ref mu, .ref mv, .ref u0, .ref u1, .ref iz, .int th, .ref mb, .int mn, .int mpt, .int mbg, .int mwr, .int mwk, .int mlf, .int men])), (mw, .inl (ct 0, 958, .inl f))] ++ ws_7) := hD
    refine lv_aload_n hx hb dX11_isOver_38 rfl (lv_at hl 0 rfl) ?_
    refine lv_iload_n hx hb dX11_isOver_39 rfl (lv_at hl 1 rfl) ?_
    refine lv_iconst (v := 2) hx hb dX11_isOver_40 (by decide) ?_
    refine ty_ki (wr := []) (wc := ([(mo, .inr (11, [.ref mw, .ref ma, .ref mf, .ref m0, .ref m1, .ref mu, .ref mv, .ref u0, .ref u1, .ref iz, .int th, .ref mb, .int mn, .int mpt, .int mbg, .int mwr, .int mwk, .int mlf, .int men])), (mw, .inl (ct 0, 958, .inl f))] ++ ws_7)) (va_runV (As := [.int p1, .int 2]) (rest := [.int (rf_of f p1 5)]) ⟨hx, hb, hml, hown, hts⟩ (m_step_2 l D ct S ws_7 mo mw ma mf m0 m1 mu mv u0 u1 iz mb th mn mpt mbg mwr mwk mlf men f G cx p1 _ hT h_mu h_mv h_u0 h_u1 hR hc ho) (cm_V 2 hts kc_X11_step ki_RX11 kl_RX11_228 kv_X11_step kx_X11_step kd_X11_step ⟨Nat.le_of_ble_eq_true rfl, Nat.le_of_ble_eq_true rfl⟩) (ty_preE (wr := []) (wc := ([(mo, .inr (11, [.ref mw, .ref ma, .ref mf, .ref m0, .ref m1, .ref mu, .ref mv, .ref u0, .ref u1, .ref iz, .int th, .ref mb, .int mn, .int mpt, .int mbg, .int mwr, .int mwk, .int mlf, .int men])), (mw, .inl (ct 0, 958, .inl f))] ++ ws_7)) (ci := 11) (q0 := 0) hP hK hD hS hA hX rfl rfl) rfl rfl hl.1 rfl (lv_room (Nat.le_of_ble_eq_true rfl)) dX11_isOver_41 ⟨Nat.le_of_ble_eq_true rfl, Nat.le_of_ble_eq_true rfl⟩) hP hD hS hA (fun r_8 u H locs hw_9 hP hD hS => ?_)
    obtain ⟨ws_10, rfl⟩ : ∃ z, z = u := ⟨_, rfl⟩
    obtain ⟨hT, rfl⟩ := hw_9
    have hP : va_P D vwCl ([(mo, .inr (11, [.ref mw, .ref ma, .ref mf, .ref m0, .ref m1, .ref mu, .ref mv, .ref u0, .ref u1, .ref iz, .int th, .ref mb, .int mn, .int mpt, .int mbg, .int mwr, .int mwk, .int mlf, .int men])), (mw, .inl (ct 0, 958, .inl f))] ++ ws_10) H := hP
    have hD : va_D A ([(mo, .inr (11, [.ref mw, .ref ma, .ref mf, .ref m0, .ref m1, .ref mu, .ref mv, .ref u0, .ref u1, .ref iz, .int th, .ref mb, .int mn, .int mpt, .int mbg, .int mwr, .int mwk, .int mlf, .int men])), (mw, .inl (ct 0, 958, .inl f))] ++ ws_10) := hD
    refine lv_icmp_lt (tgt := 51) hx hb dX11_isOver_44 (by decide) (fun hc_11 => ?_) (fun hc_11 => ?_)
    · refine lv_iconst (v := 0) hx hb dX11_isOver_51 (by decide) ?_
      exact W.zret (v := 0) hx hb hr (by decide) (fun t ht hW => ⟨⟨0, ws_10, rfl, hT, by rw [ht]; exact hP, by rw [hAe]; exact hD⟩, hS.F ht⟩) hS.2.2 dX11_isOver_52
    · refine lv_iconst (v := 1) hx hb dX11_isOver_47 (by decide) ?_
      refine lv_goto (tgt := 52) hx hb dX11_isOver_48 (by decide) ?_
      exact W.zret (v := 1) hx hb hr (by decide) (fun t ht hW => ⟨⟨1, ws_10, rfl, hT, by rw [ht]; exact hP, by rw [hAe]; exact hD⟩, hS.F ht⟩) hS.2.2 dX11_isOver_52
  by_cases hk_12 : (rf_st3 f p1 0) = 1
  · refine cm_cst hk_12 (lv_tableIn (off := 47) (tgt := 53) hx hb dX11_isOver_6 (by decide) (by decide) (by decide) (by decide) ?_)
    refine lv_aload_n hx hb dX11_isOver_53 rfl (lv_at hl 0 rfl) ?_
    refine lv_iload_n hx hb dX11_isOver_54 rfl (lv_at hl 1 rfl) ?_
    refine lv_iconst (v := 4) hx hb dX11_isOver_55 (by decide) ?_
    refine ty_ki (wr := []) (wc := ([(mo, .inr (11, [.ref mw, .ref ma, .ref mf, .ref m0, .ref m1, .ref mu, .ref mv, .ref u0, .ref u1, .ref iz, .int th, .ref mb, .int mn, .int mpt, .int mbg, .int mwr, .int mwk, .int mlf, .int men])), (mw, .inl (ct 0, 958, .inl f))] ++ ws_3)) (va_runV (As := [.int p1, .int 4]) (rest := []) ⟨hx, hb, hml, hown, hts⟩ (m_of_4 l D ct S ws_3 mo mw ma mf m0 m1 mu mv u0 u1 iz mb th mn mpt mbg mwr mwk mlf men f G cx p1 _ hT h_mu h_mv h_u0 h_u1 hR hc) (cm_V 2 hts kc_X11_of ki_RX11 kl_RX11_209 kv_X11_of kx_X11_of kd_X11_of ⟨Nat.le_of_ble_eq_true rfl, Nat.le_of_ble_eq_true rfl⟩) (ty_preE (wr := []) (wc := ([(mo, .inr (11, [.ref mw, .ref ma, .ref mf, .ref m0, .ref m1, .ref mu, .ref mv, .ref u0, .ref u1, .ref iz, .int th, .ref mb, .int mn, .int mpt, .int mbg, .int mwr, .int mwk, .int mlf, .int men])), (mw, .inl (ct 0, 958, .inl f))] ++ ws_3)) (ci := 11) (q0 := 0) hP hK hD hS hA hX rfl rfl) rfl rfl hl.1 rfl (lv_room (Nat.le_of_ble_eq_true rfl)) dX11_isOver_56 ⟨Nat.le_of_ble_eq_true rfl, Nat.le_of_ble_eq_true rfl⟩) hP hD hS hA (fun r_13 u H locs hw_14 hP hD hS => ?_)
    obtain ⟨ws_15, rfl⟩ : ∃ z, z = u := ⟨_, rfl⟩
    obtain ⟨hT, rfl⟩ := hw_14
    have hP : va_P D vwCl ([(mo, .inr (11, [.ref mw, .ref ma, .ref mf, .ref m0, .ref m1, .ref mu, .ref mv, .ref u0, .ref u1, .ref iz, .int th, .ref mb, .int mn, .int mpt, .int mbg, .int mwr, .int mwk, .int mlf, .int men])), (mw, .inl (ct 0, 958, .inl f))] ++ ws_15) H := hP
    have hD : va_D A ([(mo, .inr (11, [.ref mw, .ref ma, .ref mf, .ref m0, .ref m1, .ref mu, .ref mv, .ref u0, .ref u1, .ref iz, .int th, .ref mb, .int mn, .int mpt, .int mbg, .int mwr, .int mwk, .int mlf, .int men])), (mw, .inl (ct 0, 958, .inl f))] ++ ws_15) := hD
    refine lv_aload_n hx hb dX11_isOver_59 rfl (lv_at hl 0 rfl) ?_
    refine lv_iload_n hx hb dX11_isOver_60 rfl (lv_at hl 1 rfl) ?_
    refine lv_iconst (v := 2) hx hb dX11_isOver_61 (by decide) ?_
    refine ty_ki (wr := []) (wc := ([(mo, .inr (11, [.ref mw, .ref ma, .ref mf, .ref m0, .ref m1, .ref mu, .ref mv, .ref u0, .ref u1, .ref iz, .int th, .ref mb, .int mn, .int mpt, .int mbg, .int mwr, .int mwk, .int mlf, .int men])), (mw, .inl (ct 0, 958, .inl f))] ++ ws_15)) (va_runV (As := [.int p1, .int 2]) (rest := [.int (rf_of f p1 4)]) ⟨hx, hb, hml, hown, hts⟩ (m_step_2 l D ct S ws_15 mo mw ma mf m0 m1 mu mv u0 u1 iz mb th mn mpt mbg mwr mwk mlf men f G cx p1 _ hT h_mu h_mv h_u0 h_u1 hR hc ho) (cm_V 2 hts kc_X11_step ki_RX11 kl_RX11_228 kv_X11_step kx_X11_step kd_X11_step ⟨Nat.le_of_ble_eq_true rfl, Nat.le_of_ble_eq_true rfl⟩) (ty_preE (wr := []) (wc := ([(mo, .inr (11, [.ref mw, .ref ma, .ref mf, .ref m0, .ref m1, .ref mu, .ref mv, .ref u0, .ref u1, .ref iz, .int th, .ref mb, .int mn, .int mpt, .int mbg, .int mwr, .int mwk, .int mlf, .int men])), (mw, .inl (ct 0, 958, .inl f))] ++ ws_15)) (ci := 11) (q0 := 0) hP hK hD hS hA hX rfl rfl) rfl rfl hl.1 rfl (lv_room (Nat.le_of_ble_eq_true rfl)) dX11_isOver_62 ⟨Nat.le_of_ble_eq_true rfl, Nat.le_of_ble_eq_true rfl⟩) hP hD hS hA (fun r_16 u H locs hw_17 hP hD hS => ?_)
    obtain ⟨ws_18, rfl⟩ : ∃ z, z = u := ⟨_, rfl⟩
    obtain ⟨hT, rfl⟩ := hw_17
    have hP : va_P D vwCl ([(mo, .inr (11, [.ref mw, .ref ma, .ref mf, .ref m0, .ref m1, .ref mu, .ref mv, .ref u0, .ref u1, .ref iz, .int th, .ref mb, .int mn, .int mpt, .int mbg, .int mwr, .int mwk, .int mlf, .int men])), (mw, .inl (ct 0, 958, .inl f))] ++ ws_18) H := hP
    have hD : va_D A ([(mo, .inr (11, [.ref mw, .ref ma, .ref mf, .ref m0, .ref m1, .ref mu, .ref mv, .ref u0, .ref u1, .ref iz, .int th, .ref mb, .int mn, .int mpt, .int mbg, .int mwr, .int mwk, .int mlf, .int men])), (mw, .inl (ct 0, 958, .inl f))] ++ ws_18) := hD
    refine lv_icmp_gt (tgt := 72) hx hb dX11_isOver_65 (by decide) (fun hc_19 => ?_) (fun hc_19 => ?_)
    · refine lv_iconst (v := 0) hx hb dX11_isOver_72 (by decide) ?_
      exact W.zret (v := 0) hx hb hr (by decide) (fun t ht hW => ⟨⟨0, ws_18, rfl, hT, by rw [ht]; exact hP, by rw [hAe]; exact hD⟩, hS.F ht⟩) hS.2.2 dX11_isOver_73
    · refine lv_iconst (v := 1) hx hb dX11_isOver_68 (by decide) ?_
      refine lv_goto (tgt := 73) hx hb dX11_isOver_69 (by decide) ?_
      exact W.zret (v := 1) hx hb hr (by decide) (fun t ht hW => ⟨⟨1, ws_18, rfl, hT, by rw [ht]; exact hP, by rw [hAe]; exact hD⟩, hS.F ht⟩) hS.2.2 dX11_isOver_73
  by_cases hk_20 : (rf_st3 f p1 0) = 2
  · refine cm_cst hk_20 (lv_tableIn (off := 68) (tgt := 74) hx hb dX11_isOver_6 (by decide) (by decide) (by decide) (by decide) ?_)
    refine lv_aload_n hx hb dX11_isOver_74 rfl (lv_at hl 0 rfl) ?_
    refine lv_iload_n hx hb dX11_isOver_75 rfl (lv_at hl 1 rfl) ?_
    refine lv_iconst (v := 5) hx hb dX11_isOver_76 (by decide) ?_
    refine ty_ki (wr := []) (wc := ([(mo, .inr (11, [.ref mw, .ref ma, .ref mf, .ref m0, .ref m1, .ref mu, .ref mv, .ref u0, .ref u1, .ref iz, .int th, .ref mb, .int mn, .int mpt, .int mbg, .int mwr, .int mwk, .int mlf, .int men])), (mw, .inl (ct 0, 958, .inl f))] ++ ws_3)) (va_runV (As := [.int p1, .int 5]) (rest := []) ⟨hx, hb, hml, hown, hts⟩ (m_of_5 l D ct S ws_3 mo mw ma mf m0 m1 mu mv u0 u1 iz mb th mn mpt mbg mwr mwk mlf men f G cx p1 _ hT h_mu h_mv h_u0 h_u1 hR hc) (cm_V 2 hts kc_X11_of ki_RX11 kl_RX11_209 kv_X11_of kx_X11_of kd_X11_of ⟨Nat.le_of_ble_eq_true rfl, Nat.le_of_ble_eq_true rfl⟩) (ty_preE (wr := []) (wc := ([(mo, .inr (11, [.ref mw, .ref ma, .ref mf, .ref m0, .ref m1, .ref mu, .ref mv, .ref u0, .ref u1, .ref iz, .int th, .ref mb, .int mn, .int mpt, .int mbg, .int mwr, .int mwk, .int mlf, .int men])), (mw, .inl (ct 0, 958, .inl f))] ++ ws_3)) (ci := 11) (q0 := 0) hP hK hD hS hA hX rfl rfl) rfl rfl hl.1 rfl (lv_room (Nat.le_of_ble_eq_true rfl)) dX11_isOver_77 ⟨Nat.le_of_ble_eq_true rfl, Nat.le_of_ble_eq_true rfl⟩) hP hD hS hA (fun r_21 u H locs hw_22 hP hD hS => ?_)
    obtain ⟨ws_23, rfl⟩ : ∃ z, z = u := ⟨_, rfl⟩
    obtain ⟨hT, rfl⟩ := hw_22
    have hP : va_P D vwCl ([(mo, .inr (11, [.ref mw, .ref ma, .ref mf, .ref m0, .ref m1, .ref mu, .ref mv, .ref u0, .ref u1, .ref iz, .int th, .ref mb, .int mn, .int mpt, .int mbg, .int mwr, .int mwk, .int mlf, .int men])), (mw, .inl (ct 0, 958, .inl f))] ++ ws_23) H := hP
    have hD : va_D A ([(mo, .inr (11, [.ref mw, .ref ma, .ref mf, .ref m0, .ref m1, .ref mu, .ref mv, .ref u0, .ref u1, .ref iz, .int th, .ref mb, .int mn, .int mpt, .int mbg, .int mwr, .int mwk, .int mlf, .int men])), (mw, .inl (ct 0, 958, .inl f))] ++ ws_23) := hD
    refine lv_aload_n hx hb dX11_isOver_80 rfl (lv_at hl 0 rfl) ?_
    refine lv_iload_n hx hb dX11_isOver_81 rfl (lv_at hl 1 rfl) ?_
    refine lv_iconst (v := 2) hx hb dX11_isOver_82 (by decide) ?_
    refine ty_ki (wr := []) (wc := ([(mo, .inr (11, [.ref mw, .ref ma, .ref mf, .ref m0, .ref m1, .ref mu, .ref mv, .ref u0, .ref u1, .ref iz, .int th, .ref mb, .int mn, .int mpt, .int mbg, .int mwr, .int mwk, .int mlf, .int men])), (mw, .inl (ct 0, 958, .inl f))] ++ ws_23)) (va_runV (As := [.int p1, .int 2]) (rest := [.int (rf_of f p1 5)]) ⟨hx, hb, hml, hown, hts⟩ (m_step_2 l D ct S ws_23 mo mw ma mf m0 m1 mu mv u0 u1 iz mb th mn mpt mbg mwr mwk mlf men f G cx p1 _ hT h_mu h_mv h_u0 h_u1 hR hc ho) (cm_V 2 hts kc_X11_step ki_RX11 kl_RX11_228 kv_X11_step kx_X11_step kd_X11_step ⟨Nat.le_of_ble_eq_true rfl, Nat.le_of_ble_eq_true rfl⟩) (ty_preE (wr := []) (wc := ([(mo, .inr (11, [.ref mw, .ref ma, .ref mf, .ref m0, .ref m1, .ref mu, .ref mv, .ref u0, .ref u1, .ref iz, .int th, .ref mb, .int mn, .int mpt, .int mbg, .int mwr, .int mwk, .int mlf, .int men])), (mw, .inl (ct 0, 958, .inl f))] ++ ws_23)) (ci := 11) (q0 := 0) hP hK hD hS hA hX rfl rfl) rfl rfl hl.1 rfl (lv_room (Nat.le_of_ble_eq_true rfl)) dX11_isOver_83 ⟨Nat.le_of_ble_eq_true rfl, Nat.le_of_ble_eq_true rfl⟩) hP hD hS hA (fun r_24 u H locs hw_25 hP hD hS => ?_)
    obtain ⟨ws_26, rfl⟩ : ∃ z, z = u := ⟨_, rfl⟩
    obtain ⟨hT, rfl⟩ := hw_25
    have hP : va_P D vwCl ([(mo, .inr (11, [.ref mw, .ref ma, .ref mf, .ref m0, .ref m1, .ref mu, .ref mv, .ref u0, .ref u1, .ref iz, .int th, .ref mb, .int mn, .int mpt, .int mbg, .int mwr, .int mwk, .int mlf, .int men])), (mw, .inl (ct 0, 958, .inl f))] ++ ws_26) H := hP
    have hD : va_D A ([(mo, .inr (11, [.ref mw, .ref ma, .ref mf, .ref m0, .ref m1, .ref mu, .ref mv, .ref u0, .ref u1, .ref iz, .int th, .ref mb, .int mn, .int mpt, .int mbg, .int mwr, .int mwk, .int mlf, .int men])), (mw, .inl (ct 0, 958, .inl f))] ++ ws_26) := hD
    refine lv_icmp_le (tgt := 99) hx hb dX11_isOver_86 (by decide) (fun hc_27 => ?_) (fun hc_27 => ?_)
    · refine lv_iconst (v := 1) hx hb dX11_isOver_99 (by decide) ?_
      refine lv_goto (tgt := 104) hx hb dX11_isOver_100 (by decide) ?_
      exact W.zret (v := 1) hx hb hr (by decide) (fun t ht hW => ⟨⟨1, ws_26, rfl, hT, by rw [ht]; exact hP, by rw [hAe]; exact hD⟩, hS.F ht⟩) hS.2.2 dX11_isOver_104
    · refine lv_aload_n hx hb dX11_isOver_89 rfl (lv_at hl 0 rfl) ?_
      refine lv_iload_n hx hb dX11_isOver_90 rfl (lv_at hl 1 rfl) ?_
      refine lv_bipush (v := 6) hx hb dX11_isOver_91 (by decide) ?_
      refine ty_ki (wr := []) (wc := ([(mo, .inr (11, [.ref mw, .ref ma, .ref mf, .ref m0, .ref m1, .ref mu, .ref mv, .ref u0, .ref u1, .ref iz, .int th, .ref mb, .int mn, .int mpt, .int mbg, .int mwr, .int mwk, .int mlf, .int men])), (mw, .inl (ct 0, 958, .inl f))] ++ ws_26)) (va_runV (As := [.int p1, .int 6]) (rest := []) ⟨hx, hb, hml, hown, hts⟩ (m_of_6 l D ct S ws_26 mo mw ma mf m0 m1 mu mv u0 u1 iz mb th mn mpt mbg mwr mwk mlf men f G cx p1 _ hT h_mu h_mv h_u0 h_u1 hR hc) (cm_V 2 hts kc_X11_of ki_RX11 kl_RX11_209 kv_X11_of kx_X11_of kd_X11_of ⟨Nat.le_of_ble_eq_true rfl, Nat.le_of_ble_eq_true rfl⟩) (ty_preE (wr := []) (wc := ([(mo, .inr (11, [.ref mw, .ref ma, .ref mf, .ref m0, .ref m1, .ref mu, .ref mv, .ref u0, .ref u1, .ref iz, .int th, .ref mb, .int mn, .int mpt, .int mbg, .int mwr, .int mwk, .int mlf, .int men])), (mw, .inl (ct 0, 958, .inl f))] ++ ws_26)) (ci := 11) (q0 := 0) hP hK hD hS hA hX rfl rfl) rfl rfl hl.1 rfl (lv_room (Nat.le_of_ble_eq_true rfl)) dX11_isOver_93 ⟨Nat.le_of_ble_eq_true rfl, Nat.le_of_ble_eq_true rfl⟩) hP hD hS hA (fun r_28 u H locs hw_29 hP hD hS => ?_)
      obtain ⟨ws_30, rfl⟩ : ∃ z, z = u := ⟨_, rfl⟩
      obtain ⟨hT, rfl⟩ := hw_29
      have hP : va_P D vwCl ([(mo, .inr (11, [.ref mw, .ref ma, .ref mf, .ref m0, .ref m1, .ref mu, .ref mv, .ref u0, .ref u1, .ref iz, .int th, .ref mb, .int mn, .int mpt, .int mbg, .int mwr, .int mwk, .int mlf, .int men])), (mw, .inl (ct 0, 958, .inl f))] ++ ws_30) H := hP
      have hD : va_D A ([(mo, .inr (11, [.ref mw, .ref ma, .ref mf, .ref m0, .ref m1, .ref mu, .ref mv, .ref u0, .ref u1, .ref iz, .int th, .ref mb, .int mn, .int mpt, .int mbg, .int mwr, .int mwk, .int mlf, .int men])), (mw, .inl (ct 0, 958, .inl f))] ++ ws_30) := hD
      refine lv_if_ne (tgt := 103) hx hb dX11_isOver_96 (by decide) (fun hc_31 => ?_) (fun hc_31 => ?_)
      · refine lv_iconst (v := 0) hx hb dX11_isOver_103 (by decide) ?_
        exact W.zret (v := 0) hx hb hr (by decide) (fun t ht hW => ⟨⟨0, ws_30, rfl, hT, by rw [ht]; exact hP, by rw [hAe]; exact hD⟩, hS.F ht⟩) hS.2.2 dX11_isOver_104
      · refine lv_iconst (v := 1) hx hb dX11_isOver_99 (by decide) ?_
        refine lv_goto (tgt := 104) hx hb dX11_isOver_100 (by decide) ?_
        exact W.zret (v := 1) hx hb hr (by decide) (fun t ht hW => ⟨⟨1, ws_30, rfl, hT, by rw [ht]; exact hP, by rw [hAe]; exact hD⟩, hS.F ht⟩) hS.2.2 dX11_isOver_104
  refine lv_tableOut (tgt := 105) hx hb dX11_isOver_6 (ty_sw0_2 hk_4 hk_12 hk_20) (by decide) ?_
  refine lv_aload_n hx hb dX11_isOver_105 rfl (lv_at hl 0 rfl) ?_
  refine lv_iload_n hx hb dX11_isOver_106 rfl (lv_at hl 1 rfl) ?_
  refine lv_iconst (v := 3) hx hb dX11_isOver_107 (by decide) ?_
  refine ty_ki (wr := []) (wc := ([(mo, .inr (11, [.ref mw, .ref ma, .ref mf, .ref m0, .ref m1, .ref mu, .ref mv, .ref u0, .ref u1, .ref iz, .int th, .ref mb, .int mn, .int mpt, .int mbg, .int mwr, .int mwk, .int mlf, .int men])), (mw, .inl (ct 0, 958, .inl f))] ++ ws_3)) (va_runV (As := [.int p1, .int 3]) (rest := []) ⟨hx, hb, hml, hown, hts⟩ (m_of_3 l D ct S ws_3 mo mw ma mf m0 m1 mu mv u0 u1 iz mb th mn mpt mbg mwr mwk mlf men f G cx p1 _ hT h_mu h_mv h_u0 h_u1 hR hc) (cm_V 2 hts kc_X11_of ki_RX11 kl_RX11_209 kv_X11_of kx_X11_of kd_X11_of ⟨Nat.le_of_ble_eq_true rfl, Nat.le_of_ble_eq_true rfl⟩) (ty_preE (wr := []) (wc := ([(mo, .inr (11, [.ref mw, .ref ma, .ref mf, .ref m0, .ref m1, .ref mu, .ref mv, .ref u0, .ref u1, .ref iz, .int th, .ref mb, .int mn, .int mpt, .int mbg, .int mwr, .int mwk, .int mlf, .int men])), (mw, .inl (ct 0, 958, .inl f))] ++ ws_3)) (ci := 11) (q0 := 0) hP hK hD hS hA hX rfl rfl) rfl rfl hl.1 rfl (lv_room (Nat.le_of_ble_eq_true rfl)) dX11_isOver_108 ⟨Nat.le_of_ble_eq_true rfl, Nat.le_of_ble_eq_true rfl⟩) hP hD hS hA (fun r_32 u H locs hw_33 hP hD hS => ?_)
  obtain ⟨ws_34, rfl⟩ : ∃ z, z = u := ⟨_, rfl⟩
  obtain ⟨hT, rfl⟩ := hw_33
  have hP : va_P D vwCl ([(mo, .inr (11, [.ref mw, .ref ma, .ref mf, .ref m0, .ref m1, .ref mu, .ref mv, .ref u0, .ref u1, .ref iz, .int th, .ref mb, .int mn, .int mpt, .int mbg, .int mwr, .int mwk, .int mlf, .int men])), (mw, .inl (ct 0, 958, .inl f))] ++ ws_34) H := hP
  have hD : va_D A ([(mo, .inr (11, [.ref mw, .ref ma, .ref mf, .ref m0, .ref m1, .ref mu, .ref mv, .ref u0, .ref u1, .ref iz, .int th, .ref mb, .int mn, .int mpt, .int mbg, .int mwr, .int mwk, .int mlf, .int men])), (mw, .inl (ct 0, 958, .inl f))] ++ ws_34) := hD
  refine lv_aload_n hx hb dX11_isOver_111 rfl (lv_at hl 0 rfl) ?_
  refine lv_iload_n hx hb dX11_isOver_112 rfl (lv_at hl 1 rfl) ?_
  refine lv_iconst (v := 1) hx hb dX11_isOver_113 (by decide) ?_
  refine ty_ki (wr := []) (wc := ([(mo, .inr (11, [.ref mw, .ref ma, .ref mf, .ref m0, .ref m1, .ref mu, .ref mv, .ref u0, .ref u1, .ref iz, .int th, .ref mb, .int mn, .int mpt, .int mbg, .int mwr, .int mwk, .int mlf, .int men])), (mw, .inl (ct 0, 958, .inl f))] ++ ws_34)) (va_runV (As := [.int p1, .int 1]) (rest := [.int (rf_of f p1 3)]) ⟨hx, hb, hml, hown, hts⟩ (m_step_1 l D ct S ws_34 mo mw ma mf m0 m1 mu mv u0 u1 iz mb th mn mpt mbg mwr mwk mlf men f G cx p1 _ hT h_mu h_mv h_u0 h_u1 hR hc ho) (cm_V 2 hts kc_X11_step ki_RX11 kl_RX11_228 kv_X11_step kx_X11_step kd_X11_step ⟨Nat.le_of_ble_eq_true rfl, Nat.le_of_ble_eq_true rfl⟩) (ty_preE (wr := []) (wc := ([(mo, .inr (11, [.ref mw, .ref ma, .ref mf, .ref m0, .ref m1, .ref mu, .ref mv, .ref u0, .ref u1, .ref iz, .int th, .ref mb, .int mn, .int mpt, .int mbg, .int mwr, .int mwk, .int mlf, .int men])), (mw, .inl (ct 0, 958, .inl f))] ++ ws_34)) (ci := 11) (q0 := 0) hP hK hD hS hA hX rfl rfl) rfl rfl hl.1 rfl (lv_room (Nat.le_of_ble_eq_true rfl)) dX11_isOver_114 ⟨Nat.le_of_ble_eq_true rfl, Nat.le_of_ble_eq_true rfl⟩) hP hD hS hA (fun r_35 u H locs hw_36 hP hD hS => ?_)
  obtain ⟨ws_37, rfl⟩ : ∃ z, z = u := ⟨_, rfl⟩
  obtain ⟨hT, rfl⟩ := hw_36
  have hP : va_P D vwCl ([(mo, .inr (11, [.ref mw, .ref ma, .ref mf, .ref m0, .ref m1, .ref mu, .ref mv, .ref u0, .ref u1, .ref iz, .int th, .ref mb, .int mn, .int mpt, .int mbg, .int mwr, .int mwk, .int mlf, .int men])), (mw, .inl (ct 0, 958, .inl f))] ++ ws_37) H := hP
  have hD : va_D A ([(mo, .inr (11, [.ref mw, .ref ma, .ref mf, .ref m0, .ref m1, .ref mu, .ref mv, .ref u0, .ref u1, .ref iz, .int th, .ref mb, .int mn, .int mpt, .int mbg, .int mwr, .int mwk, .int mlf, .int men])), (mw, .inl (ct 0, 958, .inl f))] ++ ws_37) := hD
  refine lv_icmp_lt (tgt := 124) hx hb dX11_isOver_117 (by decide) (fun hc_38 => ?_) (fun hc_38 => ?_)
  · refine lv_iconst (v := 0) hx hb dX11_isOver_124 (by decide) ?_
    exact W.zret (v := 0) hx hb hr (by decide) (fun t ht hW => ⟨⟨0, ws_37, rfl, hT, by rw [ht]; exact hP, by rw [hAe]; exact hD⟩, hS.F ht⟩) hS.2.2 dX11_isOver_125
  · refine lv_iconst (v := 1) hx hb dX11_isOver_120 (by decide) ?_
    refine lv_goto (tgt := 125) hx hb dX11_isOver_121 (by decide) ?_
    exact W.zret (v := 1) hx hb hr (by decide) (fun t ht hW => ⟨⟨1, ws_37, rfl, hT, by rw [ht]; exact hP, by rw [hAe]; exact hD⟩, hS.F ht⟩) hS.2.2 dX11_isOver_125
theorem dX11_reasonNow_0 : decode cX11_reasonNow 0 = .ok (.aload_n 0, 1) := by decide +kernel
theorem dX11_reasonNow_1 : decode cX11_reasonNow 1 = .ok (.iload_n 1, 1) := by decide +kernel
theorem dX11_reasonNow_2 : decode cX11_reasonNow 2 = .ok (.iconst 5, 1) := by decide +kernel
theorem dX11_reasonNow_3 : decode cX11_reasonNow 3 = .ok (.invokevirtual 209, 3) := by decide +kernel
theorem dX11_reasonNow_6 : decode cX11_reasonNow 6 = .ok (.aload_n 0, 1) := by decide +kernel
theorem dX11_reasonNow_7 : decode cX11_reasonNow 7 = .ok (.getfield 9, 3) := by decide +kernel
theorem dX11_reasonNow_10 : decode cX11_reasonNow 10 = .ok (.iconst 5, 1) := by decide +kernel
theorem dX11_reasonNow_11 : decode cX11_reasonNow 11 = .ok (.iaload, 1) := by decide +kernel
theorem dX11_reasonNow_12 : decode cX11_reasonNow 12 = .ok (.if_icmp .le 5, 3) := by decide +kernel
theorem dX11_reasonNow_15 : decode cX11_reasonNow 15 = .ok (.iconst 1, 1) := by decide +kernel
theorem dX11_reasonNow_16 : decode cX11_reasonNow 16 = .ok (.ireturn, 1) := by decide +kernel
theorem dX11_reasonNow_17 : decode cX11_reasonNow 17 = .ok (.aload_n 0, 1) := by decide +kernel
theorem dX11_reasonNow_18 : decode cX11_reasonNow 18 = .ok (.iload_n 1, 1) := by decide +kernel
theorem dX11_reasonNow_19 : decode cX11_reasonNow 19 = .ok (.iconst 5, 1) := by decide +kernel
theorem dX11_reasonNow_20 : decode cX11_reasonNow 20 = .ok (.invokevirtual 209, 3) := by decide +kernel
theorem dX11_reasonNow_23 : decode cX11_reasonNow 23 = .ok (.aload_n 0, 1) := by decide +kernel
theorem dX11_reasonNow_24 : decode cX11_reasonNow 24 = .ok (.getfield 9, 3) := by decide +kernel
theorem dX11_reasonNow_27 : decode cX11_reasonNow 27 = .ok (.iconst 4, 1) := by decide +kernel
theorem dX11_reasonNow_28 : decode cX11_reasonNow 28 = .ok (.iaload, 1) := by decide +kernel
theorem dX11_reasonNow_29 : decode cX11_reasonNow 29 = .ok (.if_icmp .ge 5, 3) := by decide +kernel
theorem dX11_reasonNow_32 : decode cX11_reasonNow 32 = .ok (.iconst 2, 1) := by decide +kernel
theorem dX11_reasonNow_33 : decode cX11_reasonNow 33 = .ok (.ireturn, 1) := by decide +kernel
theorem dX11_reasonNow_34 : decode cX11_reasonNow 34 = .ok (.aload_n 0, 1) := by decide +kernel
theorem dX11_reasonNow_35 : decode cX11_reasonNow 35 = .ok (.iload_n 1, 1) := by decide +kernel
theorem dX11_reasonNow_36 : decode cX11_reasonNow 36 = .ok (.bipush 9, 2) := by decide +kernel
theorem dX11_reasonNow_38 : decode cX11_reasonNow 38 = .ok (.invokevirtual 209, 3) := by decide +kernel
theorem dX11_reasonNow_41 : decode cX11_reasonNow 41 = .ok (.aload_n 0, 1) := by decide +kernel
theorem dX11_reasonNow_42 : decode cX11_reasonNow 42 = .ok (.getfield 9, 3) := by decide +kernel
theorem dX11_reasonNow_45 : decode cX11_reasonNow 45 = .ok (.bipush 6, 2) := by decide +kernel
theorem dX11_reasonNow_47 : decode cX11_reasonNow 47 = .ok (.iaload, 1) := by decide +kernel
theorem dX11_reasonNow_48 : decode cX11_reasonNow 48 = .ok (.if_icmp .le 5, 3) := by decide +kernel
theorem dX11_reasonNow_51 : decode cX11_reasonNow 51 = .ok (.iconst 3, 1) := by decide +kernel
theorem dX11_reasonNow_52 : decode cX11_reasonNow 52 = .ok (.ireturn, 1) := by decide +kernel
theorem dX11_reasonNow_53 : decode cX11_reasonNow 53 = .ok (.aload_n 0, 1) := by decide +kernel
theorem dX11_reasonNow_54 : decode cX11_reasonNow 54 = .ok (.iload_n 1, 1) := by decide +kernel
theorem dX11_reasonNow_55 : decode cX11_reasonNow 55 = .ok (.iconst 3, 1) := by decide +kernel
theorem dX11_reasonNow_56 : decode cX11_reasonNow 56 = .ok (.invokevirtual 209, 3) := by decide +kernel
theorem dX11_reasonNow_59 : decode cX11_reasonNow 59 = .ok (.sipush 20000, 3) := by decide +kernel
theorem dX11_reasonNow_62 : decode cX11_reasonNow 62 = .ok (.if_icmp .lt 15, 3) := by decide +kernel
theorem dX11_reasonNow_65 : decode cX11_reasonNow 65 = .ok (.aload_n 0, 1) := by decide +kernel
theorem dX11_reasonNow_66 : decode cX11_reasonNow 66 = .ok (.iload_n 1, 1) := by decide +kernel
theorem dX11_reasonNow_67 : decode cX11_reasonNow 67 = .ok (.invokevirtual 258, 3) := by decide +kernel
theorem dX11_reasonNow_70 : decode cX11_reasonNow 70 = .ok (.ifCond .ne 7, 3) := by decide +kernel
theorem dX11_reasonNow_73 : decode cX11_reasonNow 73 = .ok (.iconst 4, 1) := by decide +kernel
theorem dX11_reasonNow_74 : decode cX11_reasonNow 74 = .ok (.goto 4, 3) := by decide +kernel
theorem dX11_reasonNow_77 : decode cX11_reasonNow 77 = .ok (.iconst 0, 1) := by decide +kernel
theorem dX11_reasonNow_78 : decode cX11_reasonNow 78 = .ok (.ireturn, 1) := by decide +kernel
set_option maxRecDepth 100000 in
set_option maxHeartbeats 4000000 in
theorem m_X11_reasonNow (l : Launch) (D : va_G) (ct : Nat → ClassId) (S : ty_S) (ws : va_W) (mo : Nat) (mw : Nat) (ma : Nat) (mf : Nat) (m0 : Nat) (m1 : Nat) (mu : Nat) (mv : Nat) (u0 : Nat) (u1 : Nat) (iz : Nat) (mb : Nat) (th : Int32) (mn : Int32) (mpt : Int32) (mbg : Int32) (mwr : Int32) (mwk : Int32) (mlf : Int32) (men : Int32) (f : Nat → Int32) (G : Nat → Int32) (cx : Int) (p1 : Int32) (sz : Nat) (hT : ty_W ct S ws) (h_mu : S mu = some (.inr (1, 42))) (h_mv : S mv = some (.inr (1, 42))) (h_u0 : S u0 = some (.inr (1, 42))) (h_u1 : S u1 = some (.inr (1, 42))) (hR : rf_R G cx f) (hc : 0 ≤ p1.toInt ∧ p1.toInt < (G 9).toInt) (ho : rf_on G f p1) : Met l yX11_reasonNow (ws_ yX11_reasonNow cX11_reasonNow 2 (some .int)) ({ frames := 3, cells := 0, slots := 0, locals := 66 } : Room) (va_Pc [.ref mo, .int p1] (cmP D ct sz ([(mo, .inr (11, [.ref mw, .ref ma, .ref mf, .ref m0, .ref m1, .ref mu, .ref mv, .ref u0, .ref u1, .ref iz, .int th, .ref mb, .int mn, .int mpt, .int mbg, .int mwr, .int mwk, .int mlf, .int men])), (mw, .inl (ct 0, 958, .inl f))] ++ ws))) (va_Qi (fun (r : Int32) (u9 : va_W) => ty_W ct S u9) (cmB D ([(mo, .inr (11, [.ref mw, .ref ma, .ref mf, .ref m0, .ref m1, .ref mu, .ref mv, .ref u0, .ref u1, .ref iz, .int th, .ref mb, .int mn, .int mpt, .int mbg, .int mwr, .int mwk, .int mlf, .int men])), (mw, .inl (ct 0, 958, .inl f))] ++ ws) sz (fun (u9 : va_W) => ([(mo, .inr (11, [.ref mw, .ref ma, .ref mf, .ref m0, .ref m1, .ref mu, .ref mv, .ref u0, .ref u1, .ref iz, .int th, .ref mb, .int mn, .int mpt, .int mbg, .int mwr, .int mwk, .int mlf, .int men])), (mw, .inl (ct 0, 958, .inl f))] ++ u9))) (va_A ([(mo, .inr (11, [.ref mw, .ref ma, .ref mf, .ref m0, .ref m1, .ref mu, .ref mv, .ref u0, .ref u1, .ref iz, .int th, .ref mb, .int mn, .int mpt, .int mbg, .int mwr, .int mwk, .int mlf, .int men])), (mw, .inl (ct 0, 958, .inl f))] ++ ws) sz)) 0 0 (va_A ([(mo, .inr (11, [.ref mw, .ref ma, .ref mf, .ref m0, .ref m1, .ref mu, .ref mv, .ref u0, .ref u1, .ref iz, .int th, .ref mb, .int mn, .int mpt, .int mbg, .int mwr, .int mwk, .int mlf, .int men])), (mw, .inl (ct 0, 958, .inl f))] ++ ws) sz) := by
  refine Met.ofW (cc := cX11_reasonNow) (maxL := 2) (ret := (some .int)) (by decide) rfl ?_
  intro p e s m args below meth c s₁ B hml hv
  obtain ⟨rfl, hsz, hP, hK, hD0, hX⟩ := hv
  have hx := B.exec
  have hb := B.bytes
  have hr := B.returns
  have hts := ws_all (atoms_spec (ws := ws_ yX11_reasonNow cX11_reasonNow 2 (some .int)) B.pre)
  have hown : s.vm.findClass RX11 = some m.cls := findClass_of_methodNamed B.named
  have hlocks := B.notSynchronized
  subst hsz
  have hD := hD0.self (sz := s.heap.size)
  generalize hAe : va_A ([(mo, .inr (11, [.ref mw, .ref ma, .ref mf, .ref m0, .ref m1, .ref mu, .ref mv, .ref u0, .ref u1, .ref iz, .int th, .ref mb, .int mn, .int mpt, .int mbg, .int mwr, .int mwk, .int mlf, .int men])), (mw, .inl (ct 0, 958, .inl f))] ++ ws) s.heap.size = A at hD hX ⊢
  have hA : ∀ q : Nat, s.heap.size ≤ q → A q := fun q h => by rw [← hAe]; exact Or.inr h
  have hS : va_S A s.heap s.heap [] := va_S.rf
  have hl := lv_entry ([.ref mo, .int p1]) (n := 2) (Nat.le_of_ble_eq_true rfl)
  rw [lg_entry_eq]
  generalize (lg_sl ([.ref mo, .int p1]) ++ List.replicate (2 - (lg_sl ([.ref mo, .int p1])).length) Slot.unset).toArray = ls at hl ⊢
  have hl : lv_has ls 2 [(0, .ref mo), (1, .int p1)] := hl
  refine lv_aload_n hx hb dX11_reasonNow_0 rfl (lv_at hl 0 rfl) ?_
  refine lv_iload_n hx hb dX11_reasonNow_1 rfl (lv_at hl 1 rfl) ?_
  refine lv_iconst (v := 5) hx hb dX11_reasonNow_2 (by decide) ?_
  refine ty_ki (wr := []) (wc := ([(mo, .inr (11, [.ref mw, .ref ma, .ref mf, .ref m0, .ref m1, .ref mu, .ref mv, .ref u0, .ref u1, .ref iz, .int th, .ref mb, .int mn, .int mpt, .int mbg, .int mwr, .int mwk, .int mlf, .int men])), (mw, .inl (ct 0, 958, .inl f))] ++ ws)) (va_runV (As := [.int p1, .int 5]) (rest := []) ⟨hx, hb, hml, hown, hts⟩ (m_of_5 l D ct S ws mo mw ma mf m0 m1 mu mv u0 u1 iz mb th mn mpt mbg mwr mwk mlf men f G cx p1 _ hT h_mu h_mv h_u0 h_u1 hR hc) (cm_V 2 hts kc_X11_of ki_RX11 kl_RX11_209 kv_X11_of kx_X11_of kd_X11_of ⟨Nat.le_of_ble_eq_true rfl, Nat.le_of_ble_eq_true rfl⟩) (ty_preE (wr := []) (wc := ([(mo, .inr (11, [.ref mw, .ref ma, .ref mf, .ref m0, .ref m1, .ref mu, .ref mv, .ref u0, .ref u1, .ref iz, .int th, .ref mb, .int mn, .int mpt, .int mbg, .int mwr, .int mwk, .int mlf, .int men])), (mw, .inl (ct 0, 958, .inl f))] ++ ws)) (ci := 11) (q0 := 0) hP hK hD hS hA hX rfl rfl) rfl rfl hl.1 rfl (lv_room (Nat.le_of_ble_eq_true rfl)) dX11_reasonNow_3 ⟨Nat.le_of_ble_eq_true rfl, Nat.le_of_ble_eq_true rfl⟩) hP hD hS hA (fun r_1 u H locs hw_2 hP hD hS => ?_)
  obtain ⟨ws_3, rfl⟩ : ∃ z, z = u := ⟨_, rfl⟩
  obtain ⟨hT, rfl⟩ := hw_2
  have hP : va_P D vwCl ([(mo, .inr (11, [.ref mw, .ref ma, .ref mf, .ref m0, .ref m1, .ref mu, .ref mv, .ref u0, .ref u1, .ref iz, .int th, .ref mb, .int mn, .int mpt, .int mbg, .int mwr, .int mwk, .int mlf, .int men])), (mw, .inl (ct 0, 958, .inl f))] ++ ws_3) H := hP
  have hD : va_D A ([(mo, .inr (11, [.ref mw, .ref ma, .ref mf, .ref m0, .ref m1, .ref mu, .ref mv, .ref u0, .ref u1, .ref iz, .int th, .ref mb, .int mn, .int mpt, .int mbg, .int mwr, .int mwk, .int mlf, .int men])), (mw, .inl (ct 0, 958, .inl f))] ++ ws_3) := hD
  refine lv_aload_n hx hb dX11_reasonNow_6 rfl (lv_at hl 0 rfl) ?_
  refine va_get (v := .ref mw) (D := D) (ci := 11) (C := RX11) (T := TX11) (N := 19) hx hb hts in_X11 hown hK hP 0 rfl rfl 0 (by decide) (hts _ kl_RX11_9) (fun _ h9 => h9) rfl dX11_reasonNow_7 ?_
  refine lv_iconst (v := 5) hx hb dX11_reasonNow_10 (by decide) ?_
  refine va_iald hx hb hK hP 1 0 rfl rfl (cm_vin (by decide)) dX11_reasonNow_11 ?_
  refine cm_cst (y := (f 5)) (by first | rfl | decide +kernel) ?_
  refine lv_icmp_le (tgt := 17) hx hb dX11_reasonNow_12 (by decide) (fun hc_4 => ?_) (fun hc_4 => ?_)
  · refine lv_aload_n hx hb dX11_reasonNow_17 rfl (lv_at hl 0 rfl) ?_
    refine lv_iload_n hx hb dX11_reasonNow_18 rfl (lv_at hl 1 rfl) ?_
    refine lv_iconst (v := 5) hx hb dX11_reasonNow_19 (by decide) ?_
    refine ty_ki (wr := []) (wc := ([(mo, .inr (11, [.ref mw, .ref ma, .ref mf, .ref m0, .ref m1, .ref mu, .ref mv, .ref u0, .ref u1, .ref iz, .int th, .ref mb, .int mn, .int mpt, .int mbg, .int mwr, .int mwk, .int mlf, .int men])), (mw, .inl (ct 0, 958, .inl f))] ++ ws_3)) (va_runV (As := [.int p1, .int 5]) (rest := []) ⟨hx, hb, hml, hown, hts⟩ (m_of_5 l D ct S ws_3 mo mw ma mf m0 m1 mu mv u0 u1 iz mb th mn mpt mbg mwr mwk mlf men f G cx p1 _ hT h_mu h_mv h_u0 h_u1 hR hc) (cm_V 2 hts kc_X11_of ki_RX11 kl_RX11_209 kv_X11_of kx_X11_of kd_X11_of ⟨Nat.le_of_ble_eq_true rfl, Nat.le_of_ble_eq_true rfl⟩) (ty_preE (wr := []) (wc := ([(mo, .inr (11, [.ref mw, .ref ma, .ref mf, .ref m0, .ref m1, .ref mu, .ref mv, .ref u0, .ref u1, .ref iz, .int th, .ref mb, .int mn, .int mpt, .int mbg, .int mwr, .int mwk, .int mlf, .int men])), (mw, .inl (ct 0, 958, .inl f))] ++ ws_3)) (ci := 11) (q0 := 0) hP hK hD hS hA hX rfl rfl) rfl rfl hl.1 rfl (lv_room (Nat.le_of_ble_eq_true rfl)) dX11_reasonNow_20 ⟨Nat.le_of_ble_eq_true rfl, Nat.le_of_ble_eq_true rfl⟩) hP hD hS hA (fun r_5 u H locs hw_6 hP hD hS => ?_)
    obtain ⟨ws_7, rfl⟩ : ∃ z, z = u := ⟨_, rfl⟩
    obtain ⟨hT, rfl⟩ := hw_6
    have hP : va_P D vwCl ([(mo, .inr (11, [.ref mw, .ref ma, .ref mf, .ref m0, .ref m1, .ref mu, .ref mv, .ref u0, .ref u1, .ref iz, .int th, .ref mb, .int mn, .int mpt, .int mbg, .int mwr, .int mwk, .int mlf, .int men])), (mw, .inl (ct 0, 958, .inl f))] ++ ws_7) H := hP
    have hD : va_D A ([(mo, .inr (11, [.ref mw, .ref ma, .ref mf, .ref m0, .ref m1, .ref mu, .ref mv, .ref u0, .ref u1, .ref iz, .int th, .ref mb, .int mn, .int mpt, .int mbg, .int mwr, .int mwk, .int mlf, .int men])), (mw, .inl (ct 0, 958, .inl f))] ++ ws_7) := hD
    refine lv_aload_n hx hb dX11_reasonNow_23 rfl (lv_at hl 0 rfl) ?_
    refine va_get (v := .ref mw) (D := D) (ci := 11) (C := RX11) (T := TX11) (N := 19) hx hb hts in_X11 hown hK hP 0 rfl rfl 0 (by decide) (hts _ kl_RX11_9) (fun _ h9 => h9) rfl dX11_reasonNow_24 ?_
    refine lv_iconst (v := 4) hx hb dX11_reasonNow_27 (by decide) ?_
    refine va_iald hx hb hK hP 1 0 rfl rfl (cm_vin (by decide)) dX11_reasonNow_28 ?_
    refine cm_cst (y := (f 4)) (by first | rfl | decide +kernel) ?_
    refine lv_icmp_ge (tgt := 34) hx hb dX11_reasonNow_29 (by decide) (fun hc_8 => ?_) (fun hc_8 => ?_)
    · refine lv_aload_n hx hb dX11_reasonNow_34 rfl (lv_at hl 0 rfl) ?_
      refine lv_iload_n hx hb dX11_reasonNow_35 rfl (lv_at hl 1 rfl) ?_
      refine lv_bipush (v := 9) hx hb dX11_reasonNow_36 (by decide) ?_
      refine ty_ki (wr := []) (wc := ([(mo, .inr (11, [.ref mw, .ref ma, .ref mf, .ref m0, .ref m1, .ref mu, .ref mv, .ref u0, .ref u1, .ref iz, .int th, .ref mb, .int mn, .int mpt, .int mbg, .int mwr, .int mwk, .int mlf, .int men])), (mw, .inl (ct 0, 958, .inl f))] ++ ws_7)) (va_runV (As := [.int p1, .int 9]) (rest := []) ⟨hx, hb, hml, hown, hts⟩ (m_of_9 l D ct S ws_7 mo mw ma mf m0 m1 mu mv u0 u1 iz mb th mn mpt mbg mwr mwk mlf men f G cx p1 _ hT h_mu h_mv h_u0 h_u1 hR hc) (cm_V 2 hts kc_X11_of ki_RX11 kl_RX11_209 kv_X11_of kx_X11_of kd_X11_of ⟨Nat.le_of_ble_eq_true rfl, Nat.le_of_ble_eq_true rfl⟩) (ty_preE (wr := []) (wc := ([(mo, .inr (11, [.ref mw, .ref ma, .ref mf, .ref m0, .ref m1, .ref mu, .ref mv, .ref u0, .ref u1, .ref iz, .int th, .ref mb, .int mn, .int mpt, .int mbg, .int mwr, .int mwk, .int mlf, .int men])), (mw, .inl (ct 0, 958, .inl f))] ++ ws_7)) (ci := 11) (q0 := 0) hP hK hD hS hA hX rfl rfl) rfl rfl hl.1 rfl (lv_room (Nat.le_of_ble_eq_true rfl)) dX11_reasonNow_38 ⟨Nat.le_of_ble_eq_true rfl, Nat.le_of_ble_eq_true rfl⟩) hP hD hS hA (fun r_9 u H locs hw_10 hP hD hS => ?_)
      obtain ⟨ws_11, rfl⟩ : ∃ z, z = u := ⟨_, rfl⟩
      obtain ⟨hT, rfl⟩ := hw_10
      have hP : va_P D vwCl ([(mo, .inr (11, [.ref mw, .ref ma, .ref mf, .ref m0, .ref m1, .ref mu, .ref mv, .ref u0, .ref u1, .ref iz, .int th, .ref mb, .int mn, .int mpt, .int mbg, .int mwr, .int mwk, .int mlf, .int men])), (mw, .inl (ct 0, 958, .inl f))] ++ ws_11) H := hP
      have hD : va_D A ([(mo, .inr (11, [.ref mw, .ref ma, .ref mf, .ref m0, .ref m1, .ref mu, .ref mv, .ref u0, .ref u1, .ref iz, .int th, .ref mb, .int mn, .int mpt, .int mbg, .int mwr, .int mwk, .int mlf, .int men])), (mw, .inl (ct 0, 958, .inl f))] ++ ws_11) := hD
      refine lv_aload_n hx hb dX11_reasonNow_41 rfl (lv_at hl 0 rfl) ?_
      refine va_get (v := .ref mw) (D := D) (ci := 11) (C := RX11) (T := TX11) (N := 19) hx hb hts in_X11 hown hK hP 0 rfl rfl 0 (by decide) (hts _ kl_RX11_9) (fun _ h9 => h9) rfl dX11_reasonNow_42 ?_
      refine lv_bipush (v := 6) hx hb dX11_reasonNow_45 (by decide) ?_
      refine va_iald hx hb hK hP 1 0 rfl rfl (cm_vin (by decide)) dX11_reasonNow_47 ?_
      refine cm_cst (y := (f 6)) (by first | rfl | decide +kernel) ?_
      refine lv_icmp_le (tgt := 53) hx hb dX11_reasonNow_48 (by decide) (fun hc_12 => ?_) (fun hc_12 => ?_)
      · refine lv_aload_n hx hb dX11_reasonNow_53 rfl (lv_at hl 0 rfl) ?_
        refine lv_iload_n hx hb dX11_reasonNow_54 rfl (lv_at hl 1 rfl) ?_
        refine lv_iconst (v := 3) hx hb dX11_reasonNow_55 (by decide) ?_
        refine ty_ki (wr := []) (wc := ([(mo, .inr (11, [.ref mw, .ref ma, .ref mf, .ref m0, .ref m1, .ref mu, .ref mv, .ref u0, .ref u1, .ref iz, .int th, .ref mb, .int mn, .int mpt, .int mbg, .int mwr, .int mwk, .int mlf, .int men])), (mw, .inl (ct 0, 958, .inl f))] ++ ws_11)) (va_runV (As := [.int p1, .int 3]) (rest := []) ⟨hx, hb, hml, hown, hts⟩ (m_of_3 l D ct S ws_11 mo mw ma mf m0 m1 mu mv u0 u1 iz mb th mn mpt mbg mwr mwk mlf men f G cx p1 _ hT h_mu h_mv h_u0 h_u1 hR hc) (cm_V 2 hts kc_X11_of ki_RX11 kl_RX11_209 kv_X11_of kx_X11_of kd_X11_of ⟨Nat.le_of_ble_eq_true rfl, Nat.le_of_ble_eq_true rfl⟩) (ty_preE (wr := []) (wc := ([(mo, .inr (11, [.ref mw, .ref ma, .ref mf, .ref m0, .ref m1, .ref mu, .ref mv, .ref u0, .ref u1, .ref iz, .int th, .ref mb, .int mn, .int mpt, .int mbg, .int mwr, .int mwk, .int mlf, .int men])), (mw, .inl (ct 0, 958, .inl f))] ++ ws_11)) (ci := 11) (q0 := 0) hP hK hD hS hA hX rfl rfl) rfl rfl hl.1 rfl (lv_room (Nat.le_of_ble_eq_true rfl)) dX11_reasonNow_56 ⟨Nat.le_of_ble_eq_true rfl, Nat.le_of_ble_eq_true rfl⟩) hP hD hS hA (fun r_13 u H locs hw_14 hP hD hS => ?_)
        obtain ⟨ws_15, rfl⟩ : ∃ z, z = u := ⟨_, rfl⟩
        obtain ⟨hT, rfl⟩ := hw_14
        have hP : va_P D vwCl ([(mo, .inr (11, [.ref mw, .ref ma, .ref mf, .ref m0, .ref m1, .ref mu, .ref mv, .ref u0, .ref u1, .ref iz, .int th, .ref mb, .int mn, .int mpt, .int mbg, .int mwr, .int mwk, .int mlf, .int men])), (mw, .inl (ct 0, 958, .inl f))] ++ ws_15) H := hP
        have hD : va_D A ([(mo, .inr (11, [.ref mw, .ref ma, .ref mf, .ref m0, .ref m1, .ref mu, .ref mv, .ref u0, .ref u1, .ref iz, .int th, .ref mb, .int mn, .int mpt, .int mbg, .int mwr, .int mwk, .int mlf, .int men])), (mw, .inl (ct 0, 958, .inl f))] ++ ws_15) := hD
        refine lv_sipush (v := 20000) hx hb dX11_reasonNow_59 (by decide) ?_
        refine lv_icmp_lt (tgt := 77) hx hb dX11_reasonNow_62 (by decide) (fun hc_16 => ?_) (fun hc_16 => ?_)
        · refine lv_iconst (v := 0) hx hb dX11_reasonNow_77 (by decide) ?_
          exact W.iret (v := 0) hx hb hr (fun t ht hW => ⟨⟨0, ws_15, rfl, hT, by rw [ht]; exact hP, by rw [hAe]; exact hD⟩, hS.F ht⟩) hS.2.2 dX11_reasonNow_78
        · refine lv_aload_n hx hb dX11_reasonNow_65 rfl (lv_at hl 0 rfl) ?_
          refine lv_iload_n hx hb dX11_reasonNow_66 rfl (lv_at hl 1 rfl) ?_
          refine ty_ki (wr := []) (wc := ([(mo, .inr (11, [.ref mw, .ref ma, .ref mf, .ref m0, .ref m1, .ref mu, .ref mv, .ref u0, .ref u1, .ref iz, .int th, .ref mb, .int mn, .int mpt, .int mbg, .int mwr, .int mwk, .int mlf, .int men])), (mw, .inl (ct 0, 958, .inl f))] ++ ws_15)) (va_runV (As := [.int p1]) (rest := []) ⟨hx, hb, hml, hown, hts⟩ (m_X11_isOver l D ct S ws_15 mo mw ma mf m0 m1 mu mv u0 u1 iz mb th mn mpt mbg mwr mwk mlf men f G cx p1 _ hT h_mu h_mv h_u0 h_u1 hR hc ho) (cm_V 1 hts kc_X11_isOver ki_RX11 kl_RX11_258 kv_X11_isOver kx_X11_isOver kd_X11_isOver ⟨Nat.le_of_ble_eq_true rfl, Nat.le_of_ble_eq_true rfl⟩) (ty_preE (wr := []) (wc := ([(mo, .inr (11, [.ref mw, .ref ma, .ref mf, .ref m0, .ref m1, .ref mu, .ref mv, .ref u0, .ref u1, .ref iz, .int th, .ref mb, .int mn, .int mpt, .int mbg, .int mwr, .int mwk, .int mlf, .int men])), (mw, .inl (ct 0, 958, .inl f))] ++ ws_15)) (ci := 11) (q0 := 0) hP hK hD hS hA hX rfl rfl) rfl rfl hl.1 rfl (lv_room (Nat.le_of_ble_eq_true rfl)) dX11_reasonNow_67 ⟨Nat.le_of_ble_eq_true rfl, Nat.le_of_ble_eq_true rfl⟩) hP hD hS hA (fun r_17 u H locs hw_18 hP hD hS => ?_)
          obtain ⟨ws_19, rfl⟩ : ∃ z, z = u := ⟨_, rfl⟩
          have hT := hw_18
          have hP : va_P D vwCl ([(mo, .inr (11, [.ref mw, .ref ma, .ref mf, .ref m0, .ref m1, .ref mu, .ref mv, .ref u0, .ref u1, .ref iz, .int th, .ref mb, .int mn, .int mpt, .int mbg, .int mwr, .int mwk, .int mlf, .int men])), (mw, .inl (ct 0, 958, .inl f))] ++ ws_19) H := hP
          have hD : va_D A ([(mo, .inr (11, [.ref mw, .ref ma, .ref mf, .ref m0, .ref m1, .ref mu, .ref mv, .ref u0, .ref u1, .ref iz, .int th, .ref mb, .int mn, .int mpt, .int mbg, .int mwr, .int mwk, .int mlf, .int men])), (mw, .inl (ct 0, 958, .inl f))] ++ ws_19) := hD
          refine lv_if_ne (tgt := 77) hx hb dX11_reasonNow_70 (by decide) (fun hc_20 => ?_) (fun hc_20 => ?_)
          · refine lv_iconst (v := 0) hx hb dX11_reasonNow_77 (by decide) ?_
            exact W.iret (v := 0) hx hb hr (fun t ht hW => ⟨⟨0, ws_19, rfl, hT, by rw [ht]; exact hP, by rw [hAe]; exact hD⟩, hS.F ht⟩) hS.2.2 dX11_reasonNow_78
          · refine lv_iconst (v := 4) hx hb dX11_reasonNow_73 (by decide) ?_
            refine lv_goto (tgt := 78) hx hb dX11_reasonNow_74 (by decide) ?_
            exact W.iret (v := 4) hx hb hr (fun t ht hW => ⟨⟨4, ws_19, rfl, hT, by rw [ht]; exact hP, by rw [hAe]; exact hD⟩, hS.F ht⟩) hS.2.2 dX11_reasonNow_78
      · refine lv_iconst (v := 3) hx hb dX11_reasonNow_51 (by decide) ?_
        exact W.iret (v := 3) hx hb hr (fun t ht hW => ⟨⟨3, ws_11, rfl, hT, by rw [ht]; exact hP, by rw [hAe]; exact hD⟩, hS.F ht⟩) hS.2.2 dX11_reasonNow_52
    · refine lv_iconst (v := 2) hx hb dX11_reasonNow_32 (by decide) ?_
      exact W.iret (v := 2) hx hb hr (fun t ht hW => ⟨⟨2, ws_7, rfl, hT, by rw [ht]; exact hP, by rw [hAe]; exact hD⟩, hS.F ht⟩) hS.2.2 dX11_reasonNow_33
  · refine lv_iconst (v := 1) hx hb dX11_reasonNow_15 (by decide) ?_
    exact W.iret (v := 1) hx hb hr (fun t ht hW => ⟨⟨1, ws_3, rfl, hT, by rw [ht]; exact hP, by rw [hAe]; exact hD⟩, hS.F ht⟩) hS.2.2 dX11_reasonNow_16
theorem dX11_warningNow_0 : decode cX11_warningNow 0 = .ok (.aload_n 0, 1) := by decide +kernel
theorem dX11_warningNow_1 : decode cX11_warningNow 1 = .ok (.iload_n 1, 1) := by decide +kernel
theorem dX11_warningNow_2 : decode cX11_warningNow 2 = .ok (.iconst 5, 1) := by decide +kernel
theorem dX11_warningNow_3 : decode cX11_warningNow 3 = .ok (.invokevirtual 209, 3) := by decide +kernel
theorem dX11_warningNow_6 : decode cX11_warningNow 6 = .ok (.aload_n 0, 1) := by decide +kernel
theorem dX11_warningNow_7 : decode cX11_warningNow 7 = .ok (.getfield 9, 3) := by decide +kernel
theorem dX11_warningNow_10 : decode cX11_warningNow 10 = .ok (.bipush 14, 2) := by decide +kernel
theorem dX11_warningNow_12 : decode cX11_warningNow 12 = .ok (.iaload, 1) := by decide +kernel
theorem dX11_warningNow_13 : decode cX11_warningNow 13 = .ok (.if_icmp .le 5, 3) := by decide +kernel
theorem dX11_warningNow_16 : decode cX11_warningNow 16 = .ok (.iconst 1, 1) := by decide +kernel
theorem dX11_warningNow_17 : decode cX11_warningNow 17 = .ok (.ireturn, 1) := by decide +kernel
theorem dX11_warningNow_18 : decode cX11_warningNow 18 = .ok (.aload_n 0, 1) := by decide +kernel
theorem dX11_warningNow_19 : decode cX11_warningNow 19 = .ok (.iload_n 1, 1) := by decide +kernel
theorem dX11_warningNow_20 : decode cX11_warningNow 20 = .ok (.iconst 5, 1) := by decide +kernel
theorem dX11_warningNow_21 : decode cX11_warningNow 21 = .ok (.invokevirtual 209, 3) := by decide +kernel
theorem dX11_warningNow_24 : decode cX11_warningNow 24 = .ok (.aload_n 0, 1) := by decide +kernel
theorem dX11_warningNow_25 : decode cX11_warningNow 25 = .ok (.getfield 9, 3) := by decide +kernel
theorem dX11_warningNow_28 : decode cX11_warningNow 28 = .ok (.bipush 13, 2) := by decide +kernel
theorem dX11_warningNow_30 : decode cX11_warningNow 30 = .ok (.iaload, 1) := by decide +kernel
theorem dX11_warningNow_31 : decode cX11_warningNow 31 = .ok (.if_icmp .ge 5, 3) := by decide +kernel
theorem dX11_warningNow_34 : decode cX11_warningNow 34 = .ok (.iconst 2, 1) := by decide +kernel
theorem dX11_warningNow_35 : decode cX11_warningNow 35 = .ok (.ireturn, 1) := by decide +kernel
theorem dX11_warningNow_36 : decode cX11_warningNow 36 = .ok (.aload_n 0, 1) := by decide +kernel
theorem dX11_warningNow_37 : decode cX11_warningNow 37 = .ok (.iload_n 1, 1) := by decide +kernel
theorem dX11_warningNow_38 : decode cX11_warningNow 38 = .ok (.bipush 9, 2) := by decide +kernel
theorem dX11_warningNow_40 : decode cX11_warningNow 40 = .ok (.invokevirtual 209, 3) := by decide +kernel
theorem dX11_warningNow_43 : decode cX11_warningNow 43 = .ok (.aload_n 0, 1) := by decide +kernel
theorem dX11_warningNow_44 : decode cX11_warningNow 44 = .ok (.getfield 9, 3) := by decide +kernel
theorem dX11_warningNow_47 : decode cX11_warningNow 47 = .ok (.bipush 15, 2) := by decide +kernel
theorem dX11_warningNow_49 : decode cX11_warningNow 49 = .ok (.iaload, 1) := by decide +kernel
theorem dX11_warningNow_50 : decode cX11_warningNow 50 = .ok (.if_icmp .le 7, 3) := by decide +kernel
theorem dX11_warningNow_53 : decode cX11_warningNow 53 = .ok (.iconst 3, 1) := by decide +kernel
theorem dX11_warningNow_54 : decode cX11_warningNow 54 = .ok (.goto 4, 3) := by decide +kernel
theorem dX11_warningNow_57 : decode cX11_warningNow 57 = .ok (.iconst 0, 1) := by decide +kernel
theorem dX11_warningNow_58 : decode cX11_warningNow 58 = .ok (.ireturn, 1) := by decide +kernel
set_option maxRecDepth 100000 in
set_option maxHeartbeats 4000000 in
theorem m_X11_warningNow (l : Launch) (D : va_G) (ct : Nat → ClassId) (S : ty_S) (ws : va_W) (mo : Nat) (mw : Nat) (ma : Nat) (mf : Nat) (m0 : Nat) (m1 : Nat) (mu : Nat) (mv : Nat) (u0 : Nat) (u1 : Nat) (iz : Nat) (mb : Nat) (th : Int32) (mn : Int32) (mpt : Int32) (mbg : Int32) (mwr : Int32) (mwk : Int32) (mlf : Int32) (men : Int32) (f : Nat → Int32) (G : Nat → Int32) (cx : Int) (p1 : Int32) (sz : Nat) (hT : ty_W ct S ws) (h_mu : S mu = some (.inr (1, 42))) (h_mv : S mv = some (.inr (1, 42))) (h_u0 : S u0 = some (.inr (1, 42))) (h_u1 : S u1 = some (.inr (1, 42))) (hR : rf_R G cx f) (hc : 0 ≤ p1.toInt ∧ p1.toInt < (G 9).toInt) : Met l yX11_warningNow (ws_ yX11_warningNow cX11_warningNow 2 (some .int)) ({ frames := 1, cells := 0, slots := 0, locals := 22 } : Room) (va_Pc [.ref mo, .int p1] (cmP D ct sz ([(mo, .inr (11, [.ref mw, .ref ma, .ref mf, .ref m0, .ref m1, .ref mu, .ref mv, .ref u0, .ref u1, .ref iz, .int th, .ref mb, .int mn, .int mpt, .int mbg, .int mwr, .int mwk, .int mlf, .int men])), (mw, .inl (ct 0, 958, .inl f))] ++ ws))) (va_Qi (fun (r : Int32) (u9 : va_W) => ty_W ct S u9) (cmB D ([(mo, .inr (11, [.ref mw, .ref ma, .ref mf, .ref m0, .ref m1, .ref mu, .ref mv, .ref u0, .ref u1, .ref iz, .int th, .ref mb, .int mn, .int mpt, .int mbg, .int mwr, .int mwk, .int mlf, .int men])), (mw, .inl (ct 0, 958, .inl f))] ++ ws) sz (fun (u9 : va_W) => ([(mo, .inr (11, [.ref mw, .ref ma, .ref mf, .ref m0, .ref m1, .ref mu, .ref mv, .ref u0, .ref u1, .ref iz, .int th, .ref mb, .int mn, .int mpt, .int mbg, .int mwr, .int mwk, .int mlf, .int men])), (mw, .inl (ct 0, 958, .inl f))] ++ u9))) (va_A ([(mo, .inr (11, [.ref mw, .ref ma, .ref mf, .ref m0, .ref m1, .ref mu, .ref mv, .ref u0, .ref u1, .ref iz, .int th, .ref mb, .int mn, .int mpt, .int mbg, .int mwr, .int mwk, .int mlf, .int men])), (mw, .inl (ct 0, 958, .inl f))] ++ ws) sz)) 0 0 (va_A ([(mo, .inr (11, [.ref mw, .ref ma, .ref mf, .ref m0, .ref m1, .ref mu, .ref mv, .ref u0, .ref u1, .ref iz, .int th, .ref mb, .int mn, .int mpt, .int mbg, .int mwr, .int mwk, .int mlf, .int men])), (mw, .inl (ct 0, 958, .inl f))] ++ ws) sz) := by
  refine Met.ofW (cc := cX11_warningNow) (maxL := 2) (ret := (some .int)) (by decide) rfl ?_
  intro p e s m args below meth c s₁ B hml hv
  obtain ⟨rfl, hsz, hP, hK, hD0, hX⟩ := hv
  have hx := B.exec
  have hb := B.bytes
  have hr := B.returns
  have hts := ws_all (atoms_spec (ws := ws_ yX11_warningNow cX11_warningNow 2 (some .int)) B.pre)
  have hown : s.vm.findClass RX11 = some m.cls := findClass_of_methodNamed B.named
  have hlocks := B.notSynchronized
  subst hsz
  have hD := hD0.self (sz := s.heap.size)
  generalize hAe : va_A ([(mo, .inr (11, [.ref mw, .ref ma, .ref mf, .ref m0, .ref m1, .ref mu, .ref mv, .ref u0, .ref u1, .ref iz, .int th, .ref mb, .int mn, .int mpt, .int mbg, .int mwr, .int mwk, .int mlf, .int men])), (mw, .inl (ct 0, 958, .inl f))] ++ ws) s.heap.size = A at hD hX ⊢
  have hA : ∀ q : Nat, s.heap.size ≤ q → A q := fun q h => by rw [← hAe]; exact Or.inr h
  have hS : va_S A s.heap s.heap [] := va_S.rf
  have hl := lv_entry ([.ref mo, .int p1]) (n := 2) (Nat.le_of_ble_eq_true rfl)
  rw [lg_entry_eq]
  generalize (lg_sl ([.ref mo, .int p1]) ++ List.replicate (2 - (lg_sl ([.ref mo, .int p1])).length) Slot.unset).toArray = ls at hl ⊢
  have hl : lv_has ls 2 [(0, .ref mo), (1, .int p1)] := hl
  refine lv_aload_n hx hb dX11_warningNow_0 rfl (lv_at hl 0 rfl) ?_
  refine lv_iload_n hx hb dX11_warningNow_1 rfl (lv_at hl 1 rfl) ?_
  refine lv_iconst (v := 5) hx hb dX11_warningNow_2 (by decide) ?_
  refine ty_ki (wr := []) (wc := ([(mo, .inr (11, [.ref mw, .ref ma, .ref mf, .ref m0, .ref m1, .ref mu, .ref mv, .ref u0, .ref u1, .ref iz, .int th, .ref mb, .int mn, .int mpt, .int mbg, .int mwr, .int mwk, .int mlf, .int men])), (mw, .inl (ct 0, 958, .inl f))] ++ ws)) (va_runV (As := [.int p1, .int 5]) (rest := []) ⟨hx, hb, hml, hown, hts⟩ (m_of_5 l D ct S ws mo mw ma mf m0 m1 mu mv u0 u1 iz mb th mn mpt mbg mwr mwk mlf men f G cx p1 _ hT h_mu h_mv h_u0 h_u1 hR hc) (cm_V 2 hts kc_X11_of ki_RX11 kl_RX11_209 kv_X11_of kx_X11_of kd_X11_of ⟨Nat.le_of_ble_eq_true rfl, Nat.le_of_ble_eq_true rfl⟩) (ty_preE (wr := []) (wc := ([(mo, .inr (11, [.ref mw, .ref ma, .ref mf, .ref m0, .ref m1, .ref mu, .ref mv, .ref u0, .ref u1, .ref iz, .int th, .ref mb, .int mn, .int mpt, .int mbg, .int mwr, .int mwk, .int mlf, .int men])), (mw, .inl (ct 0, 958, .inl f))] ++ ws)) (ci := 11) (q0 := 0) hP hK hD hS hA hX rfl rfl) rfl rfl hl.1 rfl (lv_room (Nat.le_of_ble_eq_true rfl)) dX11_warningNow_3 ⟨Nat.le_of_ble_eq_true rfl, Nat.le_of_ble_eq_true rfl⟩) hP hD hS hA (fun r_1 u H locs hw_2 hP hD hS => ?_)
  obtain ⟨ws_3, rfl⟩ : ∃ z, z = u := ⟨_, rfl⟩
  obtain ⟨hT, rfl⟩ := hw_2
  have hP : va_P D vwCl ([(mo, .inr (11, [.ref mw, .ref ma, .ref mf, .ref m0, .ref m1, .ref mu, .ref mv, .ref u0, .ref u1, .ref iz, .int th, .ref mb, .int mn, .int mpt, .int mbg, .int mwr, .int mwk, .int mlf, .int men])), (mw, .inl (ct 0, 958, .inl f))] ++ ws_3) H := hP
  have hD : va_D A ([(mo, .inr (11, [.ref mw, .ref ma, .ref mf, .ref m0, .ref m1, .ref mu, .ref mv, .ref u0, .ref u1, .ref iz, .int th, .ref mb, .int mn, .int mpt, .int mbg, .int mwr, .int mwk, .int mlf, .int men])), (mw, .inl (ct 0, 958, .inl f))] ++ ws_3) := hD
  refine lv_aload_n hx hb dX11_warningNow_6 rfl (lv_at hl 0 rfl) ?_
  refine va_get (v := .ref mw) (D := D) (ci := 11) (C := RX11) (T := TX11) (N := 19) hx hb hts in_X11 hown hK hP 0 rfl rfl 0 (by decide) (hts _ kl_RX11_9) (fun _ h9 => h9) rfl dX11_warningNow_7 ?_
  refine lv_bipush (v := 14) hx hb dX11_warningNow_10 (by decide) ?_
  refine va_iald hx hb hK hP 1 0 rfl rfl (cm_vin (by decide)) dX11_warningNow_12 ?_
  refine cm_cst (y := (f 14)) (by first | rfl | decide +kernel) ?_
  refine lv_icmp_le (tgt := 18) hx hb dX11_warningNow_13 (by decide) (fun hc_4 => ?_) (fun hc_4 => ?_)
  · refine lv_aload_n hx hb dX11_warningNow_18 rfl (lv_at hl 0 rfl) ?_
    refine lv_iload_n hx hb dX11_warningNow_19 rfl (lv_at hl 1 rfl) ?_
    refine lv_iconst (v := 5) hx hb dX11_warningNow_20 (by decide) ?_
    refine ty_ki (wr := []) (wc := ([(mo, .inr (11, [.ref mw, .ref ma, .ref mf, .ref m0, .ref m1, .ref mu, .ref mv, .ref u0, .ref u1, .ref iz, .int th, .ref mb, .int mn, .int mpt, .int mbg, .int mwr, .int mwk, .int mlf, .int men])), (mw, .inl (ct 0, 958, .inl f))] ++ ws_3)) (va_runV (As := [.int p1, .int 5]) (rest := []) ⟨hx, hb, hml, hown, hts⟩ (m_of_5 l D ct S ws_3 mo mw ma mf m0 m1 mu mv u0 u1 iz mb th mn mpt mbg mwr mwk mlf men f G cx p1 _ hT h_mu h_mv h_u0 h_u1 hR hc) (cm_V 2 hts kc_X11_of ki_RX11 kl_RX11_209 kv_X11_of kx_X11_of kd_X11_of ⟨Nat.le_of_ble_eq_true rfl, Nat.le_of_ble_eq_true rfl⟩) (ty_preE (wr := []) (wc := ([(mo, .inr (11, [.ref mw, .ref ma, .ref mf, .ref m0, .ref m1, .ref mu, .ref mv, .ref u0, .ref u1, .ref iz, .int th, .ref mb, .int mn, .int mpt, .int mbg, .int mwr, .int mwk, .int mlf, .int men])), (mw, .inl (ct 0, 958, .inl f))] ++ ws_3)) (ci := 11) (q0 := 0) hP hK hD hS hA hX rfl rfl) rfl rfl hl.1 rfl (lv_room (Nat.le_of_ble_eq_true rfl)) dX11_warningNow_21 ⟨Nat.le_of_ble_eq_true rfl, Nat.le_of_ble_eq_true rfl⟩) hP hD hS hA (fun r_5 u H locs hw_6 hP hD hS => ?_)
    obtain ⟨ws_7, rfl⟩ : ∃ z, z = u := ⟨_, rfl⟩
    obtain ⟨hT, rfl⟩ := hw_6
    have hP : va_P D vwCl ([(mo, .inr (11, [.ref mw, .ref ma, .ref mf, .ref m0, .ref m1, .ref mu, .ref mv, .ref u0, .ref u1, .ref iz, .int th, .ref mb, .int mn, .int mpt, .int mbg, .int mwr, .int mwk, .int mlf, .int men])), (mw, .inl (ct 0, 958, .inl f))] ++ ws_7) H := hP
    have hD : va_D A ([(mo, .inr (11, [.ref mw, .ref ma, .ref mf, .ref m0, .ref m1, .ref mu, .ref mv, .ref u0, .ref u1, .ref iz, .int th, .ref mb, .int mn, .int mpt, .int mbg, .int mwr, .int mwk, .int mlf, .int men])), (mw, .inl (ct 0, 958, .inl f))] ++ ws_7) := hD
    refine lv_aload_n hx hb dX11_warningNow_24 rfl (lv_at hl 0 rfl) ?_
    refine va_get (v := .ref mw) (D := D) (ci := 11) (C := RX11) (T := TX11) (N := 19) hx hb hts in_X11 hown hK hP 0 rfl rfl 0 (by decide) (hts _ kl_RX11_9) (fun _ h9 => h9) rfl dX11_warningNow_25 ?_
    refine lv_bipush (v := 13) hx hb dX11_warningNow_28 (by decide) ?_
    refine va_iald hx hb hK hP 1 0 rfl rfl (cm_vin (by decide)) dX11_warningNow_30 ?_
    refine cm_cst (y := (f 13)) (by first | rfl | decide +kernel) ?_
    refine lv_icmp_ge (tgt := 36) hx hb dX11_warningNow_31 (by decide) (fun hc_8 => ?_) (fun hc_8 => ?_)
    · refine lv_aload_n hx hb dX11_warningNow_36 rfl (lv_at hl 0 rfl) ?_
      refine lv_iload_n hx hb dX11_warningNow_37 rfl (lv_at hl 1 rfl) ?_
      refine lv_bipush (v := 9) hx hb dX11_warningNow_38 (by decide) ?_
      refine ty_ki (wr := []) (wc := ([(mo, .inr (11, [.ref mw, .ref ma, .ref mf, .ref m0, .ref m1, .ref mu, .ref mv, .ref u0, .ref u1, .ref iz, .int th, .ref mb, .int mn, .int mpt, .int mbg, .int mwr, .int mwk, .int mlf, .int men])), (mw, .inl (ct 0, 958, .inl f))] ++ ws_7)) (va_runV (As := [.int p1, .int 9]) (rest := []) ⟨hx, hb, hml, hown, hts⟩ (m_of_9 l D ct S ws_7 mo mw ma mf m0 m1 mu mv u0 u1 iz mb th mn mpt mbg mwr mwk mlf men f G cx p1 _ hT h_mu h_mv h_u0 h_u1 hR hc) (cm_V 2 hts kc_X11_of ki_RX11 kl_RX11_209 kv_X11_of kx_X11_of kd_X11_of ⟨Nat.le_of_ble_eq_true rfl, Nat.le_of_ble_eq_true rfl⟩) (ty_preE (wr := []) (wc := ([(mo, .inr (11, [.ref mw, .ref ma, .ref mf, .ref m0, .ref m1, .ref mu, .ref mv, .ref u0, .ref u1, .ref iz, .int th, .ref mb, .int mn, .int mpt, .int mbg, .int mwr, .int mwk, .int mlf, .int men])), (mw, .inl (ct 0, 958, .inl f))] ++ ws_7)) (ci := 11) (q0 := 0) hP hK hD hS hA hX rfl rfl) rfl rfl hl.1 rfl (lv_room (Nat.le_of_ble_eq_true rfl)) dX11_warningNow_40 ⟨Nat.le_of_ble_eq_true rfl, Nat.le_of_ble_eq_true rfl⟩) hP hD hS hA (fun r_9 u H locs hw_10 hP hD hS => ?_)
      obtain ⟨ws_11, rfl⟩ : ∃ z, z = u := ⟨_, rfl⟩
      obtain ⟨hT, rfl⟩ := hw_10
      have hP : va_P D vwCl ([(mo, .inr (11, [.ref mw, .ref ma, .ref mf, .ref m0, .ref m1, .ref mu, .ref mv, .ref u0, .ref u1, .ref iz, .int th, .ref mb, .int mn, .int mpt, .int mbg, .int mwr, .int mwk, .int mlf, .int men])), (mw, .inl (ct 0, 958, .inl f))] ++ ws_11) H := hP
      have hD : va_D A ([(mo, .inr (11, [.ref mw, .ref ma, .ref mf, .ref m0, .ref m1, .ref mu, .ref mv, .ref u0, .ref u1, .ref iz, .int th, .ref mb, .int mn, .int mpt, .int mbg, .int mwr, .int mwk, .int mlf, .int men])), (mw, .inl (ct 0, 958, .inl f))] ++ ws_11) := hD
      refine lv_aload_n hx hb dX11_warningNow_43 rfl (lv_at hl 0 rfl) ?_
      refine va_get (v := .ref mw) (D := D) (ci := 11) (C := RX11) (T := TX11) (N := 19) hx hb hts in_X11 hown hK hP 0 rfl rfl 0 (by decide) (hts _ kl_RX11_9) (fun _ h9 => h9) rfl dX11_warningNow_44 ?_
      refine lv_bipush (v := 15) hx hb dX11_warningNow_47 (by decide) ?_
      refine va_iald hx hb hK hP 1 0 rfl rfl (cm_vin (by decide)) dX11_warningNow_49 ?_
      refine cm_cst (y := (f 15)) (by first | rfl | decide +kernel) ?_
      refine lv_icmp_le (tgt := 57) hx hb dX11_warningNow_50 (by decide) (fun hc_12 => ?_) (fun hc_12 => ?_)
      · refine lv_iconst (v := 0) hx hb dX11_warningNow_57 (by decide) ?_
        exact W.iret (v := 0) hx hb hr (fun t ht hW => ⟨⟨0, ws_11, rfl, hT, by rw [ht]; exact hP, by rw [hAe]; exact hD⟩, hS.F ht⟩) hS.2.2 dX11_warningNow_58
      · refine lv_iconst (v := 3) hx hb dX11_warningNow_53 (by decide) ?_
        refine lv_goto (tgt := 58) hx hb dX11_warningNow_54 (by decide) ?_
        exact W.iret (v := 3) hx hb hr (fun t ht hW => ⟨⟨3, ws_11, rfl, hT, by rw [ht]; exact hP, by rw [hAe]; exact hD⟩, hS.F ht⟩) hS.2.2 dX11_warningNow_58
    · refine lv_iconst (v := 2) hx hb dX11_warningNow_34 (by decide) ?_
      exact W.iret (v := 2) hx hb hr (fun t ht hW => ⟨⟨2, ws_7, rfl, hT, by rw [ht]; exact hP, by rw [hAe]; exact hD⟩, hS.F ht⟩) hS.2.2 dX11_warningNow_35
  · refine lv_iconst (v := 1) hx hb dX11_warningNow_16 (by decide) ?_
    exact W.iret (v := 1) hx hb hr (fun t ht hW => ⟨⟨1, ws_3, rfl, hT, by rw [ht]; exact hP, by rw [hAe]; exact hD⟩, hS.F ht⟩) hS.2.2 dX11_warningNow_17
theorem dX11_clears_0 : decode cX11_clears 0 = .ok (.aload_n 0, 1) := by decide +kernel
theorem dX11_clears_1 : decode cX11_clears 1 = .ok (.iload_n 1, 1) := by decide +kernel
theorem dX11_clears_2 : decode cX11_clears 2 = .ok (.iconst 4, 1) := by decide +kernel
theorem dX11_clears_3 : decode cX11_clears 3 = .ok (.lconst 0, 1) := by decide +kernel
theorem dX11_clears_4 : decode cX11_clears 4 = .ok (.invokevirtual 265, 3) := by decide +kernel
theorem dX11_clears_7 : decode cX11_clears 7 = .ok (.aload_n 0, 1) := by decide +kernel
theorem dX11_clears_8 : decode cX11_clears 8 = .ok (.iload_n 1, 1) := by decide +kernel
theorem dX11_clears_9 : decode cX11_clears 9 = .ok (.iconst 5, 1) := by decide +kernel
theorem dX11_clears_10 : decode cX11_clears 10 = .ok (.lconst 0, 1) := by decide +kernel
theorem dX11_clears_11 : decode cX11_clears 11 = .ok (.invokevirtual 265, 3) := by decide +kernel
theorem dX11_clears_14 : decode cX11_clears 14 = .ok (.aload_n 0, 1) := by decide +kernel
theorem dX11_clears_15 : decode cX11_clears 15 = .ok (.iload_n 1, 1) := by decide +kernel
theorem dX11_clears_16 : decode cX11_clears 16 = .ok (.bipush 21, 2) := by decide +kernel
theorem dX11_clears_18 : decode cX11_clears 18 = .ok (.iconst 0, 1) := by decide +kernel
theorem dX11_clears_19 : decode cX11_clears 19 = .ok (.invokevirtual 234, 3) := by decide +kernel
theorem dX11_clears_22 : decode cX11_clears 22 = .ok (.return_, 1) := by decide +kernel
set_option maxRecDepth 100000 in
set_option maxHeartbeats 4000000 in
theorem m_X11_clears (l : Launch) (D : va_G) (ct : Nat → ClassId) (S : ty_S) (ws : va_W) (mo : Nat) (mw : Nat) (ma : Nat) (mf : Nat) (m0 : Nat) (m1 : Nat) (mu : Nat) (mv : Nat) (u0 : Nat) (u1 : Nat) (iz : Nat) (mb : Nat) (th : Int32) (mn : Int32) (mpt : Int32) (mbg : Int32) (mwr : Int32) (mwk : Int32) (mlf : Int32) (men : Int32) (f : Nat → Int32) (G : Nat → Int32) (cx : Int) (p1 : Int32) (sz : Nat) (hT : ty_W ct S ws) (h_mu : S mu = some (.inr (1, 42))) (h_mv : S mv = some (.inr (1, 42))) (h_u0 : S u0 = some (.inr (1, 42))) (h_u1 : S u1 = some (.inr (1, 42))) (hR : rf_R G cx f) (hc : 0 ≤ p1.toInt ∧ p1.toInt < (G 9).toInt) : Met l yX11_clears (ws_ yX11_clears cX11_clears 2 none) ({ frames := 1, cells := 0, slots := 0, locals := 24 } : Room) (va_Pc [.ref mo, .int p1] (cmP D ct sz ([(mo, .inr (11, [.ref mw, .ref ma, .ref mf, .ref m0, .ref m1, .ref mu, .ref mv, .ref u0, .ref u1, .ref iz, .int th, .ref mb, .int mn, .int mpt, .int mbg, .int mwr, .int mwk, .int mlf, .int men])), (mw, .inl (ct 0, 958, .inl f))] ++ ws))) (va_Qv (fun (u : va_W × (Nat → Int32)) => match u with | (u9, f1) => ty_W ct S u9 ∧ rf_R G cx f1 ∧ rf_sm f f1) (cmB D ([(mo, .inr (11, [.ref mw, .ref ma, .ref mf, .ref m0, .ref m1, .ref mu, .ref mv, .ref u0, .ref u1, .ref iz, .int th, .ref mb, .int mn, .int mpt, .int mbg, .int mwr, .int mwk, .int mlf, .int men])), (mw, .inl (ct 0, 958, .inl f))] ++ ws) sz (fun (u : va_W × (Nat → Int32)) => match u with | (u9, f1) => ([(mo, .inr (11, [.ref mw, .ref ma, .ref mf, .ref m0, .ref m1, .ref mu, .ref mv, .ref u0, .ref u1, .ref iz, .int th, .ref mb, .int mn, .int mpt, .int mbg, .int mwr, .int mwk, .int mlf, .int men])), (mw, .inl (ct 0, 958, .inl f1))] ++ u9))) (va_A ([(mo, .inr (11, [.ref mw, .ref ma, .ref mf, .ref m0, .ref m1, .ref mu, .ref mv, .ref u0, .ref u1, .ref iz, .int th, .ref mb, .int mn, .int mpt, .int mbg, .int mwr, .int mwk, .int mlf, .int men])), (mw, .inl (ct 0, 958, .inl f))] ++ ws) sz)) 0 0 (va_A ([(mo, .inr (11, [.ref mw, .ref ma, .ref mf, .ref m0, .ref m1, .ref mu, .ref mv, .ref u0, .ref u1, .ref iz, .int th, .ref mb, .int mn, .int mpt, .int mbg, .int mwr, .int mwk, .int mlf, .int men])), (mw, .inl (ct 0, 958, .inl f))] ++ ws) sz) := by
  refine Met.ofW (cc := cX11_clears) (maxL := 2) (ret := none) (by decide) rfl ?_
  intro p e s m args below meth c s₁ B hml hv
  obtain ⟨rfl, hsz, hP, hK, hD0, hX⟩ := hv
  have hx := B.exec
  have hb := B.bytes
  have hr := B.returns
  have hts := ws_all (atoms_spec (ws := ws_ yX11_clears cX11_clears 2 none) B.pre)
  have hown : s.vm.findClass RX11 = some m.cls := findClass_of_methodNamed B.named
  have hlocks := B.notSynchronized
  subst hsz
  have hD := hD0.self (sz := s.heap.size)
  generalize hAe : va_A ([(mo, .inr (11, [.ref mw, .ref ma, .ref mf, .ref m0, .ref m1, .ref mu, .ref mv, .ref u0, .ref u1, .ref iz, .int th, .ref mb, .int mn, .int mpt, .int mbg, .int mwr, .int mwk, .int mlf, .int men])), (mw, .inl (ct 0, 958, .inl f))] ++ ws) s.heap.size = A at hD hX ⊢
  have hA : ∀ q : Nat, s.heap.size ≤ q → A q := fun q h => by rw [← hAe]; exact Or.inr h
  have hS : va_S A s.heap s.heap [] := va_S.rf
  have hl := lv_entry ([.ref mo, .int p1]) (n := 2) (Nat.le_of_ble_eq_true rfl)
  rw [lg_entry_eq]
  generalize (lg_sl ([.ref mo, .int p1]) ++ List.replicate (2 - (lg_sl ([.ref mo, .int p1])).length) Slot.unset).toArray = ls at hl ⊢
  have hl : lv_has ls 2 [(0, .ref mo), (1, .int p1)] := hl
  refine lv_aload_n hx hb dX11_clears_0 rfl (lv_at hl 0 rfl) ?_
  refine lv_iload_n hx hb dX11_clears_1 rfl (lv_at hl 1 rfl) ?_
  refine lv_iconst (v := 4) hx hb dX11_clears_2 (by decide) ?_
  refine lv_lconst (v := 0) hx hb dX11_clears_3 (by decide) ?_
  have hP : va_P D vwCl ([(mw, .inl (ct 0, 958, .inl f)), (mo, .inr (11, [.ref mw, .ref ma, .ref mf, .ref m0, .ref m1, .ref mu, .ref mv, .ref u0, .ref u1, .ref iz, .int th, .ref mb, .int mn, .int mpt, .int mbg, .int mwr, .int mwk, .int mlf, .int men]))] ++ ws) H := ty_permP hP (ty_ordp (E := [(mo, .inr (11, [.ref mw, .ref ma, .ref mf, .ref m0, .ref m1, .ref mu, .ref mv, .ref u0, .ref u1, .ref iz, .int th, .ref mb, .int mn, .int mpt, .int mbg, .int mwr, .int mwk, .int mlf, .int men])), (mw, .inl (ct 0, 958, .inl f))]) (E2 := [(mw, .inl (ct 0, 958, .inl f)), (mo, .inr (11, [.ref mw, .ref ma, .ref mf, .ref m0, .ref m1, .ref mu, .ref mv, .ref u0, .ref u1, .ref iz, .int th, .ref mb, .int mn, .int mpt, .int mbg, .int mwr, .int mwk, .int mlf, .int men]))]) (n := 2) [1, 0] rfl rfl (by decide))
  have hD : va_D A ([(mw, .inl (ct 0, 958, .inl f)), (mo, .inr (11, [.ref mw, .ref ma, .ref mf, .ref m0, .ref m1, .ref mu, .ref mv, .ref u0, .ref u1, .ref iz, .int th, .ref mb, .int mn, .int mpt, .int mbg, .int mwr, .int mwk, .int mlf, .int men]))] ++ ws) := ty_permD hD (ty_ordp (E := [(mo, .inr (11, [.ref mw, .ref ma, .ref mf, .ref m0, .ref m1, .ref mu, .ref mv, .ref u0, .ref u1, .ref iz, .int th, .ref mb, .int mn, .int mpt, .int mbg, .int mwr, .int mwk, .int mlf, .int men])), (mw, .inl (ct 0, 958, .inl f))]) (E2 := [(mw, .inl (ct 0, 958, .inl f)), (mo, .inr (11, [.ref mw, .ref ma, .ref mf, .ref m0, .ref m1, .ref mu, .ref mv, .ref u0, .ref u1, .ref iz, .int th, .ref mb, .int mn, .int mpt, .int mbg, .int mwr, .int mwk, .int mlf, .int men]))]) (n := 2) [1, 0] rfl rfl (by decide))
  refine ty_kv (wr := [(mw, .inl (ct 0, 958, .inl f))]) (wc := ([(mo, .inr (11, [.ref mw, .ref ma, .ref mf, .ref m0, .ref m1, .ref mu, .ref mv, .ref u0, .ref u1, .ref iz, .int th, .ref mb, .int mn, .int mpt, .int mbg, .int mwr, .int mwk, .int mlf, .int men]))] ++ ws)) (va_runV (As := [.int p1, .int 4, .long 0]) (rest := []) ⟨hx, hb, hml, hown, hts⟩ (m_X11_putSum l D ct S ws mo mw ma mf m0 m1 mu mv u0 u1 iz mb th mn mpt mbg mwr mwk mlf men p1 (4 : Int32) (0 : Int64) _ hT h_mu h_mv h_u0 h_u1 (rf_c6 hR hc) (by decide)) (cm_V 3 hts kc_X11_putSum ki_RX11 kl_RX11_265 kv_X11_putSum kx_X11_putSum kd_X11_putSum ⟨Nat.le_of_ble_eq_true rfl, Nat.le_of_ble_eq_true rfl⟩) (ty_preE (wr := [(mw, .inl (ct 0, 958, .inl f))]) (wc := ([(mo, .inr (11, [.ref mw, .ref ma, .ref mf, .ref m0, .ref m1, .ref mu, .ref mv, .ref u0, .ref u1, .ref iz, .int th, .ref mb, .int mn, .int mpt, .int mbg, .int mwr, .int mwk, .int mlf, .int men]))] ++ ws)) (ci := 11) (q0 := 1) hP hK hD hS hA hX rfl rfl) rfl rfl hl.1 rfl (lv_room (Nat.le_of_ble_eq_true rfl)) dX11_clears_4 ⟨Nat.le_of_ble_eq_true rfl, Nat.le_of_ble_eq_true rfl⟩) hP hD hS hA (fun u H locs hw_2 hP hD hS => ?_)
  obtain ⟨ws_3, rfl⟩ : ∃ z, z = u := ⟨_, rfl⟩
  have hT := hw_2
  have hP : va_P D vwCl ([(mw, .inl (ct 0, 958, .inl f)), (mo, .inr (11, [.ref mw, .ref ma, .ref mf, .ref m0, .ref m1, .ref mu, .ref mv, .ref u0, .ref u1, .ref iz, .int th, .ref mb, .int mn, .int mpt, .int mbg, .int mwr, .int mwk, .int mlf, .int men]))] ++ ws_3) H := hP
  have hD : va_D A ([(mw, .inl (ct 0, 958, .inl f)), (mo, .inr (11, [.ref mw, .ref ma, .ref mf, .ref m0, .ref m1, .ref mu, .ref mv, .ref u0, .ref u1, .ref iz, .int th, .ref mb, .int mn, .int mpt, .int mbg, .int mwr, .int mwk, .int mlf, .int men]))] ++ ws_3) := hD
  refine lv_aload_n hx hb dX11_clears_7 rfl (lv_at hl 0 rfl) ?_
  refine lv_iload_n hx hb dX11_clears_8 rfl (lv_at hl 1 rfl) ?_
  refine lv_iconst (v := 5) hx hb dX11_clears_9 (by decide) ?_
  refine lv_lconst (v := 0) hx hb dX11_clears_10 (by decide) ?_
  refine ty_kv (wr := [(mw, .inl (ct 0, 958, .inl f))]) (wc := ([(mo, .inr (11, [.ref mw, .ref ma, .ref mf, .ref m0, .ref m1, .ref mu, .ref mv, .ref u0, .ref u1, .ref iz, .int th, .ref mb, .int mn, .int mpt, .int mbg, .int mwr, .int mwk, .int mlf, .int men]))] ++ ws_3)) (va_runV (As := [.int p1, .int 5, .long 0]) (rest := []) ⟨hx, hb, hml, hown, hts⟩ (m_X11_putSum l D ct S ws_3 mo mw ma mf m0 m1 mu mv u0 u1 iz mb th mn mpt mbg mwr mwk mlf men p1 (5 : Int32) (0 : Int64) _ hT h_mu h_mv h_u0 h_u1 (rf_c6 hR hc) (by decide)) (cm_V 3 hts kc_X11_putSum ki_RX11 kl_RX11_265 kv_X11_putSum kx_X11_putSum kd_X11_putSum ⟨Nat.le_of_ble_eq_true rfl, Nat.le_of_ble_eq_true rfl⟩) (ty_preE (wr := [(mw, .inl (ct 0, 958, .inl f))]) (wc := ([(mo, .inr (11, [.ref mw, .ref ma, .ref mf, .ref m0, .ref m1, .ref mu, .ref mv, .ref u0, .ref u1, .ref iz, .int th, .ref mb, .int mn, .int mpt, .int mbg, .int mwr, .int mwk, .int mlf, .int men]))] ++ ws_3)) (ci := 11) (q0 := 1) hP hK hD hS hA hX rfl rfl) rfl rfl hl.1 rfl (lv_room (Nat.le_of_ble_eq_true rfl)) dX11_clears_11 ⟨Nat.le_of_ble_eq_true rfl, Nat.le_of_ble_eq_true rfl⟩) hP hD hS hA (fun u H locs hw_5 hP hD hS => ?_)
  obtain ⟨ws_6, rfl⟩ : ∃ z, z = u := ⟨_, rfl⟩
  have hT := hw_5
  have hP : va_P D vwCl ([(mw, .inl (ct 0, 958, .inl f)), (mo, .inr (11, [.ref mw, .ref ma, .ref mf, .ref m0, .ref m1, .ref mu, .ref mv, .ref u0, .ref u1, .ref iz, .int th, .ref mb, .int mn, .int mpt, .int mbg, .int mwr, .int mwk, .int mlf, .int men]))] ++ ws_6) H := hP
  have hD : va_D A ([(mw, .inl (ct 0, 958, .inl f)), (mo, .inr (11, [.ref mw, .ref ma, .ref mf, .ref m0, .ref m1, .ref mu, .ref mv, .ref u0, .ref u1, .ref iz, .int th, .ref mb, .int mn, .int mpt, .int mbg, .int mwr, .int mwk, .int mlf, .int men]))] ++ ws_6) := hD
  refine lv_aload_n hx hb dX11_clears_14 rfl (lv_at hl 0 rfl) ?_
  refine lv_iload_n hx hb dX11_clears_15 rfl (lv_at hl 1 rfl) ?_
  refine lv_bipush (v := 21) hx hb dX11_clears_16 (by decide) ?_
  refine lv_iconst (v := 0) hx hb dX11_clears_18 (by decide) ?_
  have hP : va_P D vwCl ([(mo, .inr (11, [.ref mw, .ref ma, .ref mf, .ref m0, .ref m1, .ref mu, .ref mv, .ref u0, .ref u1, .ref iz, .int th, .ref mb, .int mn, .int mpt, .int mbg, .int mwr, .int mwk, .int mlf, .int men])), (mw, .inl (ct 0, 958, .inl f))] ++ ws_6) H := ty_permP hP (ty_ordp (E := [(mw, .inl (ct 0, 958, .inl f)), (mo, .inr (11, [.ref mw, .ref ma, .ref mf, .ref m0, .ref m1, .ref mu, .ref mv, .ref u0, .ref u1, .ref iz, .int th, .ref mb, .int mn, .int mpt, .int mbg, .int mwr, .int mwk, .int mlf, .int men]))]) (E2 := [(mo, .inr (11, [.ref mw, .ref ma, .ref mf, .ref m0, .ref m1, .ref mu, .ref mv, .ref u0, .ref u1, .ref iz, .int th, .ref mb, .int mn, .int mpt, .int mbg, .int mwr, .int mwk, .int mlf, .int men])), (mw, .inl (ct 0, 958, .inl f))]) (n := 2) [1, 0] rfl rfl (by decide))
  have hD : va_D A ([(mo, .inr (11, [.ref mw, .ref ma, .ref mf, .ref m0, .ref m1, .ref mu, .ref mv, .ref u0, .ref u1, .ref iz, .int th, .ref mb, .int mn, .int mpt, .int mbg, .int mwr, .int mwk, .int mlf, .int men])), (mw, .inl (ct 0, 958, .inl f))] ++ ws_6) := ty_permD hD (ty_ordp (E := [(mw, .inl (ct 0, 958, .inl f)), (mo, .inr (11, [.ref mw, .ref ma, .ref mf, .ref m0, .ref m1, .ref mu, .ref mv, .ref u0, .ref u1, .ref iz, .int th, .ref mb, .int mn, .int mpt, .int mbg, .int mwr, .int mwk, .int mlf, .int men]))]) (E2 := [(mo, .inr (11, [.ref mw, .ref ma, .ref mf, .ref m0, .ref m1, .ref mu, .ref mv, .ref u0, .ref u1, .ref iz, .int th, .ref mb, .int mn, .int mpt, .int mbg, .int mwr, .int mwk, .int mlf, .int men])), (mw, .inl (ct 0, 958, .inl f))]) (n := 2) [1, 0] rfl rfl (by decide))
  refine ty_kv (wr := []) (wc := ([(mo, .inr (11, [.ref mw, .ref ma, .ref mf, .ref m0, .ref m1, .ref mu, .ref mv, .ref u0, .ref u1, .ref iz, .int th, .ref mb, .int mn, .int mpt, .int mbg, .int mwr, .int mwk, .int mlf, .int men])), (mw, .inl (ct 0, 958, .inl f))] ++ ws_6)) (va_runV (As := [.int p1, .int 21, .int 0]) (rest := []) ⟨hx, hb, hml, hown, hts⟩ (m_put_21 l D ct S ws_6 mo mw ma mf m0 m1 mu mv u0 u1 iz mb th mn mpt mbg mwr mwk mlf men f G cx p1 (0 : Int32) _ hT h_mu h_mv h_u0 h_u1 hR hc) (cm_V 3 hts kc_X11_put ki_RX11 kl_RX11_234 kv_X11_put kx_X11_put kd_X11_put ⟨Nat.le_of_ble_eq_true rfl, Nat.le_of_ble_eq_true rfl⟩) (ty_preE (wr := []) (wc := ([(mo, .inr (11, [.ref mw, .ref ma, .ref mf, .ref m0, .ref m1, .ref mu, .ref mv, .ref u0, .ref u1, .ref iz, .int th, .ref mb, .int mn, .int mpt, .int mbg, .int mwr, .int mwk, .int mlf, .int men])), (mw, .inl (ct 0, 958, .inl f))] ++ ws_6)) (ci := 11) (q0 := 0) hP hK hD hS hA hX rfl rfl) rfl rfl hl.1 rfl (lv_room (Nat.le_of_ble_eq_true rfl)) dX11_clears_19 ⟨Nat.le_of_ble_eq_true rfl, Nat.le_of_ble_eq_true rfl⟩) hP hD hS hA (fun u H locs hw_8 hP hD hS => ?_)
  obtain ⟨ws_9, f1_10⟩ := u
  obtain ⟨hT, hp_11⟩ := hw_8
  have hp_11 : rf_R G cx f1_10 ∧ rf_sm f f1_10 ∧ f1_10 = upd f (244 + 54 * p1.toInt.toNat + 21) (0 : Int32) := hp_11
  have hR_12 := hp_11.1
  have hM_13 := rf_smt (rf_smr f) hp_11.2.1
  have hP : va_P D vwCl ([(mo, .inr (11, [.ref mw, .ref ma, .ref mf, .ref m0, .ref m1, .ref mu, .ref mv, .ref u0, .ref u1, .ref iz, .int th, .ref mb, .int mn, .int mpt, .int mbg, .int mwr, .int mwk, .int mlf, .int men])), (mw, .inl (ct 0, 958, .inl f1_10))] ++ ws_9) H := hP
  have hD : va_D A ([(mo, .inr (11, [.ref mw, .ref ma, .ref mf, .ref m0, .ref m1, .ref mu, .ref mv, .ref u0, .ref u1, .ref iz, .int th, .ref mb, .int mn, .int mpt, .int mbg, .int mwr, .int mwk, .int mlf, .int men])), (mw, .inl (ct 0, 958, .inl f1_10))] ++ ws_9) := hD
  exact W.vret hx hb hr (fun t ht hW => ⟨⟨(ws_9, f1_10), rfl, ⟨hT, ⟨hR_12, hM_13⟩⟩, by rw [ht]; exact hP, by rw [hAe]; exact hD⟩, hS.F ht⟩) hS.2.2 dX11_clears_22
theorem dX11_flows_0 : decode cX11_flows 0 = .ok (.aload_n 0, 1) := by decide +kernel
theorem dX11_flows_1 : decode cX11_flows 1 = .ok (.iload_n 1, 1) := by decide +kernel
theorem dX11_flows_2 : decode cX11_flows 2 = .ok (.iload_n 2, 1) := by decide +kernel
theorem dX11_flows_3 : decode cX11_flows 3 = .ok (.invokevirtual 245, 3) := by decide +kernel
theorem dX11_flows_6 : decode cX11_flows 6 = .ok (.aload_n 0, 1) := by decide +kernel
theorem dX11_flows_7 : decode cX11_flows 7 = .ok (.iload_n 1, 1) := by decide +kernel
theorem dX11_flows_8 : decode cX11_flows 8 = .ok (.iload_n 2, 1) := by decide +kernel
theorem dX11_flows_9 : decode cX11_flows 9 = .ok (.invokevirtual 249, 3) := by decide +kernel
theorem dX11_flows_12 : decode cX11_flows 12 = .ok (.aload_n 0, 1) := by decide +kernel
theorem dX11_flows_13 : decode cX11_flows 13 = .ok (.iload_n 1, 1) := by decide +kernel
theorem dX11_flows_14 : decode cX11_flows 14 = .ok (.iload_n 2, 1) := by decide +kernel
theorem dX11_flows_15 : decode cX11_flows 15 = .ok (.invokevirtual 252, 3) := by decide +kernel
theorem dX11_flows_18 : decode cX11_flows 18 = .ok (.aload_n 0, 1) := by decide +kernel
theorem dX11_flows_19 : decode cX11_flows 19 = .ok (.iload_n 1, 1) := by decide +kernel
theorem dX11_flows_20 : decode cX11_flows 20 = .ok (.iload_n 2, 1) := by decide +kernel
theorem dX11_flows_21 : decode cX11_flows 21 = .ok (.invokevirtual 255, 3) := by decide +kernel
theorem dX11_flows_24 : decode cX11_flows 24 = .ok (.aload_n 0, 1) := by decide +kernel
theorem dX11_flows_25 : decode cX11_flows 25 = .ok (.iload_n 1, 1) := by decide +kernel
theorem dX11_flows_26 : decode cX11_flows 26 = .ok (.aload_n 0, 1) := by decide +kernel
theorem dX11_flows_27 : decode cX11_flows 27 = .ok (.iload_n 1, 1) := by decide +kernel
theorem dX11_flows_28 : decode cX11_flows 28 = .ok (.bipush 6, 2) := by decide +kernel
theorem dX11_flows_30 : decode cX11_flows 30 = .ok (.invokevirtual 209, 3) := by decide +kernel
theorem dX11_flows_33 : decode cX11_flows 33 = .ok (.invokevirtual 231, 3) := by decide +kernel
theorem dX11_flows_36 : decode cX11_flows 36 = .ok (.iload_n 2, 1) := by decide +kernel
theorem dX11_flows_37 : decode cX11_flows 37 = .ok (.aload_n 0, 1) := by decide +kernel
theorem dX11_flows_38 : decode cX11_flows 38 = .ok (.iload_n 1, 1) := by decide +kernel
theorem dX11_flows_39 : decode cX11_flows 39 = .ok (.bipush 13, 2) := by decide +kernel
theorem dX11_flows_41 : decode cX11_flows 41 = .ok (.invokevirtual 209, 3) := by decide +kernel
theorem dX11_flows_44 : decode cX11_flows 44 = .ok (.imul, 1) := by decide +kernel
theorem dX11_flows_45 : decode cX11_flows 45 = .ok (.sipush 1000, 3) := by decide +kernel
theorem dX11_flows_48 : decode cX11_flows 48 = .ok (.idiv, 1) := by decide +kernel
theorem dX11_flows_49 : decode cX11_flows 49 = .ok (.iadd, 1) := by decide +kernel
theorem dX11_flows_50 : decode cX11_flows 50 = .ok (.aload_n 0, 1) := by decide +kernel
theorem dX11_flows_51 : decode cX11_flows 51 = .ok (.iload_n 1, 1) := by decide +kernel
theorem dX11_flows_52 : decode cX11_flows 52 = .ok (.bipush 8, 2) := by decide +kernel
theorem dX11_flows_54 : decode cX11_flows 54 = .ok (.invokevirtual 209, 3) := by decide +kernel
theorem dX11_flows_57 : decode cX11_flows 57 = .ok (.iadd, 1) := by decide +kernel
theorem dX11_flows_58 : decode cX11_flows 58 = .ok (.istore_n 3, 1) := by decide +kernel
theorem dX11_flows_59 : decode cX11_flows 59 = .ok (.aload_n 0, 1) := by decide +kernel
theorem dX11_flows_60 : decode cX11_flows 60 = .ok (.iload_n 1, 1) := by decide +kernel
theorem dX11_flows_61 : decode cX11_flows 61 = .ok (.iconst 4, 1) := by decide +kernel
theorem dX11_flows_62 : decode cX11_flows 62 = .ok (.iload_n 2, 1) := by decide +kernel
theorem dX11_flows_63 : decode cX11_flows 63 = .ok (.invokevirtual 234, 3) := by decide +kernel
theorem dX11_flows_66 : decode cX11_flows 66 = .ok (.aload_n 0, 1) := by decide +kernel
theorem dX11_flows_67 : decode cX11_flows 67 = .ok (.iload_n 1, 1) := by decide +kernel
theorem dX11_flows_68 : decode cX11_flows 68 = .ok (.iconst 5, 1) := by decide +kernel
theorem dX11_flows_69 : decode cX11_flows 69 = .ok (.iload_n 3, 1) := by decide +kernel
theorem dX11_flows_70 : decode cX11_flows 70 = .ok (.invokevirtual 234, 3) := by decide +kernel
theorem dX11_flows_73 : decode cX11_flows 73 = .ok (.iload_n 2, 1) := by decide +kernel
theorem dX11_flows_74 : decode cX11_flows 74 = .ok (.ifCond .le 14, 3) := by decide +kernel
theorem dX11_flows_77 : decode cX11_flows 77 = .ok (.aload_n 0, 1) := by decide +kernel
theorem dX11_flows_78 : decode cX11_flows 78 = .ok (.iload_n 1, 1) := by decide +kernel
theorem dX11_flows_79 : decode cX11_flows 79 = .ok (.iconst 2, 1) := by decide +kernel
theorem dX11_flows_80 : decode cX11_flows 80 = .ok (.iload_n 2, 1) := by decide +kernel
theorem dX11_flows_81 : decode cX11_flows 81 = .ok (.i2l, 1) := by decide +kernel
theorem dX11_flows_82 : decode cX11_flows 82 = .ok (.iload_n 3, 1) := by decide +kernel
theorem dX11_flows_83 : decode cX11_flows 83 = .ok (.i2l, 1) := by decide +kernel
theorem dX11_flows_84 : decode cX11_flows 84 = .ok (.lmul, 1) := by decide +kernel
theorem dX11_flows_85 : decode cX11_flows 85 = .ok (.invokevirtual 238, 3) := by decide +kernel
theorem dX11_flows_88 : decode cX11_flows 88 = .ok (.iload_n 2, 1) := by decide +kernel
theorem dX11_flows_89 : decode cX11_flows 89 = .ok (.ifCond .ge 15, 3) := by decide +kernel
theorem dX11_flows_92 : decode cX11_flows 92 = .ok (.aload_n 0, 1) := by decide +kernel
theorem dX11_flows_93 : decode cX11_flows 93 = .ok (.iload_n 1, 1) := by decide +kernel
theorem dX11_flows_94 : decode cX11_flows 94 = .ok (.iconst 3, 1) := by decide +kernel
theorem dX11_flows_95 : decode cX11_flows 95 = .ok (.iload_n 2, 1) := by decide +kernel
theorem dX11_flows_96 : decode cX11_flows 96 = .ok (.i2l, 1) := by decide +kernel
theorem dX11_flows_97 : decode cX11_flows 97 = .ok (.lneg, 1) := by decide +kernel
theorem dX11_flows_98 : decode cX11_flows 98 = .ok (.iload_n 3, 1) := by decide +kernel
theorem dX11_flows_99 : decode cX11_flows 99 = .ok (.i2l, 1) := by decide +kernel
theorem dX11_flows_100 : decode cX11_flows 100 = .ok (.lmul, 1) := by decide +kernel
theorem dX11_flows_101 : decode cX11_flows 101 = .ok (.invokevirtual 238, 3) := by decide +kernel
theorem dX11_flows_104 : decode cX11_flows 104 = .ok (.return_, 1) := by decide +kernel
set_option maxRecDepth 100000 in
set_option maxHeartbeats 4000000 in
theorem m_X11_flows (l : Launch) (D : va_G) (ct : Nat → ClassId) (S : ty_S) (ws : va_W) (mo : Nat) (mw : Nat) (ma : Nat) (mf : Nat) (m0 : Nat) (m1 : Nat) (mu : Nat) (mv : Nat) (u0 : Nat) (u1 : Nat) (iz : Nat) (mb : Nat) (th : Int32) (mn : Int32) (mpt : Int32) (mbg : Int32) (mwr : Int32) (mwk : Int32) (mlf : Int32) (men : Int32) (f : Nat → Int32) (G : Nat → Int32) (cx : Int) (p1 : Int32) (p2 : Int32) (sz : Nat) (hT : ty_W ct S ws) (h_mu : S mu = some (.inr (1, 42))) (h_mv : S mv = some (.inr (1, 42))) (h_u0 : S u0 = some (.inr (1, 42))) (h_u1 : S u1 = some (.inr (1, 42))) (hR : rf_R G cx f) (hc : 0 ≤ p1.toInt ∧ p1.toInt < (G 9).toInt) (hi : -((rf_of f p1 6).toInt) ≤ p2.toInt ∧ p2.toInt ≤ 5000) : Met l yX11_flows (ws_ yX11_flows cX11_flows 4 none) ({ frames := 2, cells := 0, slots := 0, locals := 53 } : Room) (va_Pc [.ref mo, .int p1, .int p2] (cmP D ct sz ([(mo, .inr (11, [.ref mw, .ref ma, .ref mf, .ref m0, .ref m1, .ref mu, .ref mv, .ref u0, .ref u1, .ref iz, .int th, .ref mb, .int mn, .int mpt, .int mbg, .int mwr, .int mwk, .int mlf, .int men])), (mw, .inl (ct 0, 958, .inl f))] ++ ws))) (va_Qv (fun (u : va_W × (Nat → Int32)) => match u with | (u9, f1) => ty_W ct S u9 ∧ rf_R G cx f1 ∧ rf_sm f f1) (cmB D ([(mo, .inr (11, [.ref mw, .ref ma, .ref mf, .ref m0, .ref m1, .ref mu, .ref mv, .ref u0, .ref u1, .ref iz, .int th, .ref mb, .int mn, .int mpt, .int mbg, .int mwr, .int mwk, .int mlf, .int men])), (mw, .inl (ct 0, 958, .inl f))] ++ ws) sz (fun (u : va_W × (Nat → Int32)) => match u with | (u9, f1) => ([(mo, .inr (11, [.ref mw, .ref ma, .ref mf, .ref m0, .ref m1, .ref mu, .ref mv, .ref u0, .ref u1, .ref iz, .int th, .ref mb, .int mn, .int mpt, .int mbg, .int mwr, .int mwk, .int mlf, .int men])), (mw, .inl (ct 0, 958, .inl f1))] ++ u9))) (va_A ([(mo, .inr (11, [.ref mw, .ref ma, .ref mf, .ref m0, .ref m1, .ref mu, .ref mv, .ref u0, .ref u1, .ref iz, .int th, .ref mb, .int mn, .int mpt, .int mbg, .int mwr, .int mwk, .int mlf, .int men])), (mw, .inl (ct 0, 958, .inl f))] ++ ws) sz)) 0 0 (va_A ([(mo, .inr (11, [.ref mw, .ref ma, .ref mf, .ref m0, .ref m1, .ref mu, .ref mv, .ref u0, .ref u1, .ref iz, .int th, .ref mb, .int mn, .int mpt, .int mbg, .int mwr, .int mwk, .int mlf, .int men])), (mw, .inl (ct 0, 958, .inl f))] ++ ws) sz) := by
  refine Met.ofW (cc := cX11_flows) (maxL := 4) (ret := none) (by decide) rfl ?_
  intro p e s m args below meth c s₁ B hml hv
  obtain ⟨rfl, hsz, hP, hK, hD0, hX⟩ := hv
  have hx := B.exec
  have hb := B.bytes
  have hr := B.returns
  have hts := ws_all (atoms_spec (ws := ws_ yX11_flows cX11_flows 4 none) B.pre)
  have hown : s.vm.findClass RX11 = some m.cls := findClass_of_methodNamed B.named
  have hlocks := B.notSynchronized
  subst hsz
  have hD := hD0.self (sz := s.heap.size)
  generalize hAe : va_A ([(mo, .inr (11, [.ref mw, .ref ma, .ref mf, .ref m0, .ref m1, .ref mu, .ref mv, .ref u0, .ref u1, .ref iz, .int th, .ref mb, .int mn, .int mpt, .int mbg, .int mwr, .int mwk, .int mlf, .int men])), (mw, .inl (ct 0, 958, .inl f))] ++ ws) s.heap.size = A at hD hX ⊢
  have hA : ∀ q : Nat, s.heap.size ≤ q → A q := fun q h => by rw [← hAe]; exact Or.inr h
  have hS : va_S A s.heap s.heap [] := va_S.rf
  have hl := lv_entry ([.ref mo, .int p1, .int p2]) (n := 4) (Nat.le_of_ble_eq_true rfl)
  rw [lg_entry_eq]
  generalize (lg_sl ([.ref mo, .int p1, .int p2]) ++ List.replicate (4 - (lg_sl ([.ref mo, .int p1, .int p2])).length) Slot.unset).toArray = ls at hl ⊢
  have hl : lv_has ls 4 [(0, .ref mo), (1, .int p1), (2, .int p2)] := hl
  refine lv_aload_n hx hb dX11_flows_0 rfl (lv_at hl 0 rfl) ?_
  refine lv_iload_n hx hb dX11_flows_1 rfl (lv_at hl 1 rfl) ?_
  refine lv_iload_n hx hb dX11_flows_2 rfl (lv_at hl 2 rfl) ?_
  refine ty_kv (wr := []) (wc := ([(mo, .inr (11, [.ref mw, .ref ma, .ref mf, .ref m0, .ref m1, .ref mu, .ref mv, .ref u0, .ref u1, .ref iz, .int th, .ref mb, .int mn, .int mpt, .int mbg, .int mwr, .int mwk, .int mlf, .int men])), (mw, .inl (ct 0, 958, .inl f))] ++ ws)) (va_runV (As := [.int p1, .int p2]) (rest := []) ⟨hx, hb, hml, hown, hts⟩ (m_X11_polarizes l D ct S ws mo mw ma mf m0 m1 mu mv u0 u1 iz mb th mn mpt mbg mwr mwk mlf men f G cx p1 p2 _ hT h_mu h_mv h_u0 h_u1 hR hc) (cm_V 2 hts kc_X11_polarizes ki_RX11 kl_RX11_245 kv_X11_polarizes kx_X11_polarizes kd_X11_polarizes ⟨Nat.le_of_ble_eq_true rfl, Nat.le_of_ble_eq_true rfl⟩) (ty_preE (wr := []) (wc := ([(mo, .inr (11, [.ref mw, .ref ma, .ref mf, .ref m0, .ref m1, .ref mu, .ref mv, .ref u0, .ref u1, .ref iz, .int th, .ref mb, .int mn, .int mpt, .int mbg, .int mwr, .int mwk, .int mlf, .int men])), (mw, .inl (ct 0, 958, .inl f))] ++ ws)) (ci := 11) (q0 := 0) hP hK hD hS hA hX rfl rfl) rfl rfl hl.1 rfl (lv_room (Nat.le_of_ble_eq_true rfl)) dX11_flows_3 ⟨Nat.le_of_ble_eq_true rfl, Nat.le_of_ble_eq_true rfl⟩) hP hD hS hA (fun u H locs hw_2 hP hD hS => ?_)
  obtain ⟨ws_3, f1_4⟩ := u
  obtain ⟨hT, hp_5⟩ := hw_2
  have hp_5 : rf_R G cx f1_4 ∧ rf_sm f f1_4 ∧ rf_of f1_4 p1 6 = rf_of f p1 6 := hp_5
  have hR_6 := hp_5.1
  have hM_7 := rf_smt (rf_smr f) hp_5.2.1
  have hP : va_P D vwCl ([(mo, .inr (11, [.ref mw, .ref ma, .ref mf, .ref m0, .ref m1, .ref mu, .ref mv, .ref u0, .ref u1, .ref iz, .int th, .ref mb, .int mn, .int mpt, .int mbg, .int mwr, .int mwk, .int mlf, .int men])), (mw, .inl (ct 0, 958, .inl f1_4))] ++ ws_3) H := hP
  have hD : va_D A ([(mo, .inr (11, [.ref mw, .ref ma, .ref mf, .ref m0, .ref m1, .ref mu, .ref mv, .ref u0, .ref u1, .ref iz, .int th, .ref mb, .int mn, .int mpt, .int mbg, .int mwr, .int mwk, .int mlf, .int men])), (mw, .inl (ct 0, 958, .inl f1_4))] ++ ws_3) := hD
  refine lv_aload_n hx hb dX11_flows_6 rfl (lv_at hl 0 rfl) ?_
  refine lv_iload_n hx hb dX11_flows_7 rfl (lv_at hl 1 rfl) ?_
  refine lv_iload_n hx hb dX11_flows_8 rfl (lv_at hl 2 rfl) ?_
  refine ty_kv (wr := []) (wc := ([(mo, .inr (11, [.ref mw, .ref ma, .ref mf, .ref m0, .ref m1, .ref mu, .ref mv, .ref u0, .ref u1, .ref iz, .int th, .ref mb, .int mn, .int mpt, .int mbg, .int mwr, .int mwk, .int mlf, .int men])), (mw, .inl (ct 0, 958, .inl f1_4))] ++ ws_3)) (va_runV (As := [.int p1, .int p2]) (rest := []) ⟨hx, hb, hml, hown, hts⟩ (m_X11_moves l D ct S ws_3 mo mw ma mf m0 m1 mu mv u0 u1 iz mb th mn mpt mbg mwr mwk mlf men f1_4 G cx p1 p2 _ hT h_mu h_mv h_u0 h_u1 hR_6 hc (by rw [hp_5.2.2]; exact hi)) (cm_V 2 hts kc_X11_moves ki_RX11 kl_RX11_249 kv_X11_moves kx_X11_moves kd_X11_moves ⟨Nat.le_of_ble_eq_true rfl, Nat.le_of_ble_eq_true rfl⟩) (ty_preE (wr := []) (wc := ([(mo, .inr (11, [.ref mw, .ref ma, .ref mf, .ref m0, .ref m1, .ref mu, .ref mv, .ref u0, .ref u1, .ref iz, .int th, .ref mb, .int mn, .int mpt, .int mbg, .int mwr, .int mwk, .int mlf, .int men])), (mw, .inl (ct 0, 958, .inl f1_4))] ++ ws_3)) (ci := 11) (q0 := 0) hP hK hD hS hA hX rfl rfl) rfl rfl hl.1 rfl (lv_room (Nat.le_of_ble_eq_true rfl)) dX11_flows_9 ⟨Nat.le_of_ble_eq_true rfl, Nat.le_of_ble_eq_true rfl⟩) hP hD hS hA (fun u H locs hw_9 hP hD hS => ?_)
  obtain ⟨ws_10, f1_11⟩ := u
  obtain ⟨hT, hp_12⟩ := hw_9
  have hp_12 : rf_R G cx f1_11 ∧ rf_sm f1_4 f1_11 := hp_12
  have hR_13 := hp_12.1
  have hM_14 := rf_smt hM_7 hp_12.2.1
  have hP : va_P D vwCl ([(mo, .inr (11, [.ref mw, .ref ma, .ref mf, .ref m0, .ref m1, .ref mu, .ref mv, .ref u0, .ref u1, .ref iz, .int th, .ref mb, .int mn, .int mpt, .int mbg, .int mwr, .int mwk, .int mlf, .int men])), (mw, .inl (ct 0, 958, .inl f1_11))] ++ ws_10) H := hP
  have hD : va_D A ([(mo, .inr (11, [.ref mw, .ref ma, .ref mf, .ref m0, .ref m1, .ref mu, .ref mv, .ref u0, .ref u1, .ref iz, .int th, .ref mb, .int mn, .int mpt, .int mbg, .int mwr, .int mwk, .int mlf, .int men])), (mw, .inl (ct 0, 958, .inl f1_11))] ++ ws_10) := hD
  refine lv_aload_n hx hb dX11_flows_12 rfl (lv_at hl 0 rfl) ?_
  refine lv_iload_n hx hb dX11_flows_13 rfl (lv_at hl 1 rfl) ?_
  refine lv_iload_n hx hb dX11_flows_14 rfl (lv_at hl 2 rfl) ?_
  refine ty_kv (wr := []) (wc := ([(mo, .inr (11, [.ref mw, .ref ma, .ref mf, .ref m0, .ref m1, .ref mu, .ref mv, .ref u0, .ref u1, .ref iz, .int th, .ref mb, .int mn, .int mpt, .int mbg, .int mwr, .int mwk, .int mlf, .int men])), (mw, .inl (ct 0, 958, .inl f1_11))] ++ ws_10)) (va_runV (As := [.int p1, .int p2]) (rest := []) ⟨hx, hb, hml, hown, hts⟩ (m_X11_fades l D ct S ws_10 mo mw ma mf m0 m1 mu mv u0 u1 iz mb th mn mpt mbg mwr mwk mlf men f1_11 G cx p1 p2 _ hT h_mu h_mv h_u0 h_u1 hR_13 hc) (cm_V 2 hts kc_X11_fades ki_RX11 kl_RX11_252 kv_X11_fades kx_X11_fades kd_X11_fades ⟨Nat.le_of_ble_eq_true rfl, Nat.le_of_ble_eq_true rfl⟩) (ty_preE (wr := []) (wc := ([(mo, .inr (11, [.ref mw, .ref ma, .ref mf, .ref m0, .ref m1, .ref mu, .ref mv, .ref u0, .ref u1, .ref iz, .int th, .ref mb, .int mn, .int mpt, .int mbg, .int mwr, .int mwk, .int mlf, .int men])), (mw, .inl (ct 0, 958, .inl f1_11))] ++ ws_10)) (ci := 11) (q0 := 0) hP hK hD hS hA hX rfl rfl) rfl rfl hl.1 rfl (lv_room (Nat.le_of_ble_eq_true rfl)) dX11_flows_15 ⟨Nat.le_of_ble_eq_true rfl, Nat.le_of_ble_eq_true rfl⟩) hP hD hS hA (fun u H locs hw_16 hP hD hS => ?_)
  obtain ⟨ws_17, f1_18⟩ := u
  obtain ⟨hT, hp_19⟩ := hw_16
  have hp_19 : rf_R G cx f1_18 ∧ rf_sm f1_11 f1_18 := hp_19
  have hR_20 := hp_19.1
  have hM_21 := rf_smt hM_14 hp_19.2.1
  have hP : va_P D vwCl ([(mo, .inr (11, [.ref mw, .ref ma, .ref mf, .ref m0, .ref m1, .ref mu, .ref mv, .ref u0, .ref u1, .ref iz, .int th, .ref mb, .int mn, .int mpt, .int mbg, .int mwr, .int mwk, .int mlf, .int men])), (mw, .inl (ct 0, 958, .inl f1_18))] ++ ws_17) H := hP
  have hD : va_D A ([(mo, .inr (11, [.ref mw, .ref ma, .ref mf, .ref m0, .ref m1, .ref mu, .ref mv, .ref u0, .ref u1, .ref iz, .int th, .ref mb, .int mn, .int mpt, .int mbg, .int mwr, .int mwk, .int mlf, .int men])), (mw, .inl (ct 0, 958, .inl f1_18))] ++ ws_17) := hD
  refine lv_aload_n hx hb dX11_flows_18 rfl (lv_at hl 0 rfl) ?_
  refine lv_iload_n hx hb dX11_flows_19 rfl (lv_at hl 1 rfl) ?_
  refine lv_iload_n hx hb dX11_flows_20 rfl (lv_at hl 2 rfl) ?_
  refine ty_kv (wr := []) (wc := ([(mo, .inr (11, [.ref mw, .ref ma, .ref mf, .ref m0, .ref m1, .ref mu, .ref mv, .ref u0, .ref u1, .ref iz, .int th, .ref mb, .int mn, .int mpt, .int mbg, .int mwr, .int mwk, .int mlf, .int men])), (mw, .inl (ct 0, 958, .inl f1_18))] ++ ws_17)) (va_runV (As := [.int p1, .int p2]) (rest := []) ⟨hx, hb, hml, hown, hts⟩ (m_X11_warms l D ct S ws_17 mo mw ma mf m0 m1 mu mv u0 u1 iz mb th mn mpt mbg mwr mwk mlf men f1_18 G cx p1 p2 _ hT h_mu h_mv h_u0 h_u1 hR_20 hc) (cm_V 2 hts kc_X11_warms ki_RX11 kl_RX11_255 kv_X11_warms kx_X11_warms kd_X11_warms ⟨Nat.le_of_ble_eq_true rfl, Nat.le_of_ble_eq_true rfl⟩) (ty_preE (wr := []) (wc := ([(mo, .inr (11, [.ref mw, .ref ma, .ref mf, .ref m0, .ref m1, .ref mu, .ref mv, .ref u0, .ref u1, .ref iz, .int th, .ref mb, .int mn, .int mpt, .int mbg, .int mwr, .int mwk, .int mlf, .int men])), (mw, .inl (ct 0, 958, .inl f1_18))] ++ ws_17)) (ci := 11) (q0 := 0) hP hK hD hS hA hX rfl rfl) rfl rfl hl.1 rfl (lv_room (Nat.le_of_ble_eq_true rfl)) dX11_flows_21 ⟨Nat.le_of_ble_eq_true rfl, Nat.le_of_ble_eq_true rfl⟩) hP hD hS hA (fun u H locs hw_23 hP hD hS => ?_)
  obtain ⟨ws_24, f1_25⟩ := u
  obtain ⟨hT, hp_26⟩ := hw_23
  have hp_26 : rf_R G cx f1_25 ∧ rf_sm f1_18 f1_25 := hp_26
  have hR_27 := hp_26.1
  have hM_28 := rf_smt hM_21 hp_26.2.1
  have hP : va_P D vwCl ([(mo, .inr (11, [.ref mw, .ref ma, .ref mf, .ref m0, .ref m1, .ref mu, .ref mv, .ref u0, .ref u1, .ref iz, .int th, .ref mb, .int mn, .int mpt, .int mbg, .int mwr, .int mwk, .int mlf, .int men])), (mw, .inl (ct 0, 958, .inl f1_25))] ++ ws_24) H := hP
  have hD : va_D A ([(mo, .inr (11, [.ref mw, .ref ma, .ref mf, .ref m0, .ref m1, .ref mu, .ref mv, .ref u0, .ref u1, .ref iz, .int th, .ref mb, .int mn, .int mpt, .int mbg, .int mwr, .int mwk, .int mlf, .int men])), (mw, .inl (ct 0, 958, .inl f1_25))] ++ ws_24) := hD
  refine lv_aload_n hx hb dX11_flows_24 rfl (lv_at hl 0 rfl) ?_
  refine lv_iload_n hx hb dX11_flows_25 rfl (lv_at hl 1 rfl) ?_
  refine lv_aload_n hx hb dX11_flows_26 rfl (lv_at hl 0 rfl) ?_
  refine lv_iload_n hx hb dX11_flows_27 rfl (lv_at hl 1 rfl) ?_
  refine lv_bipush (v := 6) hx hb dX11_flows_28 (by decide) ?_
  refine ty_ki (wr := []) (wc := ([(mo, .inr (11, [.ref mw, .ref ma, .ref mf, .ref m0, .ref m1, .ref mu, .ref mv, .ref u0, .ref u1, .ref iz, .int th, .ref mb, .int mn, .int mpt, .int mbg, .int mwr, .int mwk, .int mlf, .int men])), (mw, .inl (ct 0, 958, .inl f1_25))] ++ ws_24)) (va_runV (As := [.int p1, .int 6]) (rest := [.int p1, .ref mo]) ⟨hx, hb, hml, hown, hts⟩ (m_of_6 l D ct S ws_24 mo mw ma mf m0 m1 mu mv u0 u1 iz mb th mn mpt mbg mwr mwk mlf men f1_25 G cx p1 _ hT h_mu h_mv h_u0 h_u1 hR_27 hc) (cm_V 2 hts kc_X11_of ki_RX11 kl_RX11_209 kv_X11_of kx_X11_of kd_X11_of ⟨Nat.le_of_ble_eq_true rfl, Nat.le_of_ble_eq_true rfl⟩) (ty_preE (wr := []) (wc := ([(mo, .inr (11, [.ref mw, .ref ma, .ref mf, .ref m0, .ref m1, .ref mu, .ref mv, .ref u0, .ref u1, .ref iz, .int th, .ref mb, .int mn, .int mpt, .int mbg, .int mwr, .int mwk, .int mlf, .int men])), (mw, .inl (ct 0, 958, .inl f1_25))] ++ ws_24)) (ci := 11) (q0 := 0) hP hK hD hS hA hX rfl rfl) rfl rfl hl.1 rfl (lv_room (Nat.le_of_ble_eq_true rfl)) dX11_flows_30 ⟨Nat.le_of_ble_eq_true rfl, Nat.le_of_ble_eq_true rfl⟩) hP hD hS hA (fun r_29 u H locs hw_30 hP hD hS => ?_)
  obtain ⟨ws_31, rfl⟩ : ∃ z, z = u := ⟨_, rfl⟩
  obtain ⟨hT, rfl⟩ := hw_30
  have hP : va_P D vwCl ([(mo, .inr (11, [.ref mw, .ref ma, .ref mf, .ref m0, .ref m1, .ref mu, .ref mv, .ref u0, .ref u1, .ref iz, .int th, .ref mb, .int mn, .int mpt, .int mbg, .int mwr, .int mwk, .int mlf, .int men])), (mw, .inl (ct 0, 958, .inl f1_25))] ++ ws_31) H := hP
  have hD : va_D A ([(mo, .inr (11, [.ref mw, .ref ma, .ref mf, .ref m0, .ref m1, .ref mu, .ref mv, .ref u0, .ref u1, .ref iz, .int th, .ref mb, .int mn, .int mpt, .int mbg, .int mwr, .int mwk, .int mlf, .int men])), (mw, .inl (ct 0, 958, .inl f1_25))] ++ ws_31) := hD
  refine ty_ki (wr := []) (wc := ([(mo, .inr (11, [.ref mw, .ref ma, .ref mf, .ref m0, .ref m1, .ref mu, .ref mv, .ref u0, .ref u1, .ref iz, .int th, .ref mb, .int mn, .int mpt, .int mbg, .int mwr, .int mwk, .int mlf, .int men])), (mw, .inl (ct 0, 958, .inl f1_25))] ++ ws_31)) (va_runV (As := [.int p1, .int (rf_of f1_25 p1 6)]) (rest := []) ⟨hx, hb, hml, hown, hts⟩ (m_X11_restAt l D ct S ws_31 mo mw ma mf m0 m1 mu mv u0 u1 iz mb th mn mpt mbg mwr mwk mlf men f1_25 G cx p1 (rf_of f1_25 p1 6) _ hT h_mu h_mv h_u0 h_u1 hR_27 hc (rf_qp hR_27 hc).1.1.1) (cm_V 2 hts kc_X11_restAt ki_RX11 kl_RX11_231 kv_X11_restAt kx_X11_restAt kd_X11_restAt ⟨Nat.le_of_ble_eq_true rfl, Nat.le_of_ble_eq_true rfl⟩) (ty_preE (wr := []) (wc := ([(mo, .inr (11, [.ref mw, .ref ma, .ref mf, .ref m0, .ref m1, .ref mu, .ref mv, .ref u0, .ref u1, .ref iz, .int th, .ref mb, .int mn, .int mpt, .int mbg, .int mwr, .int mwk, .int mlf, .int men])), (mw, .inl (ct 0, 958, .inl f1_25))] ++ ws_31)) (ci := 11) (q0 := 0) hP hK hD hS hA hX rfl rfl) rfl rfl hl.1 rfl (lv_room (Nat.le_of_ble_eq_true rfl)) dX11_flows_33 ⟨Nat.le_of_ble_eq_true rfl, Nat.le_of_ble_eq_true rfl⟩) hP hD hS hA (fun r_32 u H locs hw_33 hP hD hS => ?_)
  obtain ⟨ws_34, rfl⟩ : ∃ z, z = u := ⟨_, rfl⟩
  have hT := hw_33
  have hP : va_P D vwCl ([(mo, .inr (11, [.ref mw, .ref ma, .ref mf, .ref m0, .ref m1, .ref mu, .ref mv, .ref u0, .ref u1, .ref iz, .int th, .ref mb, .int mn, .int mpt, .int mbg, .int mwr, .int mwk, .int mlf, .int men])), (mw, .inl (ct 0, 958, .inl f1_25))] ++ ws_34) H := hP
  have hD : va_D A ([(mo, .inr (11, [.ref mw, .ref ma, .ref mf, .ref m0, .ref m1, .ref mu, .ref mv, .ref u0, .ref u1, .ref iz, .int th, .ref mb, .int mn, .int mpt, .int mbg, .int mwr, .int mwk, .int mlf, .int men])), (mw, .inl (ct 0, 958, .inl f1_25))] ++ ws_34) := hD
  refine lv_iload_n hx hb dX11_flows_36 rfl (lv_at hl 2 rfl) ?_
  refine lv_aload_n hx hb dX11_flows_37 rfl (lv_at hl 0 rfl) ?_
  refine lv_iload_n hx hb dX11_flows_38 rfl (lv_at hl 1 rfl) ?_
  refine lv_bipush (v := 13) hx hb dX11_flows_39 (by decide) ?_
  refine ty_ki (wr := []) (wc := ([(mo, .inr (11, [.ref mw, .ref ma, .ref mf, .ref m0, .ref m1, .ref mu, .ref mv, .ref u0, .ref u1, .ref iz, .int th, .ref mb, .int mn, .int mpt, .int mbg, .int mwr, .int mwk, .int mlf, .int men])), (mw, .inl (ct 0, 958, .inl f1_25))] ++ ws_34)) (va_runV (As := [.int p1, .int 13]) (rest := [.int p2, .int r_32]) ⟨hx, hb, hml, hown, hts⟩ (m_of_13 l D ct S ws_34 mo mw ma mf m0 m1 mu mv u0 u1 iz mb th mn mpt mbg mwr mwk mlf men f1_25 G cx p1 _ hT h_mu h_mv h_u0 h_u1 hR_27 hc) (cm_V 2 hts kc_X11_of ki_RX11 kl_RX11_209 kv_X11_of kx_X11_of kd_X11_of ⟨Nat.le_of_ble_eq_true rfl, Nat.le_of_ble_eq_true rfl⟩) (ty_preE (wr := []) (wc := ([(mo, .inr (11, [.ref mw, .ref ma, .ref mf, .ref m0, .ref m1, .ref mu, .ref mv, .ref u0, .ref u1, .ref iz, .int th, .ref mb, .int mn, .int mpt, .int mbg, .int mwr, .int mwk, .int mlf, .int men])), (mw, .inl (ct 0, 958, .inl f1_25))] ++ ws_34)) (ci := 11) (q0 := 0) hP hK hD hS hA hX rfl rfl) rfl rfl hl.1 rfl (lv_room (Nat.le_of_ble_eq_true rfl)) dX11_flows_41 ⟨Nat.le_of_ble_eq_true rfl, Nat.le_of_ble_eq_true rfl⟩) hP hD hS hA (fun r_35 u H locs hw_36 hP hD hS => ?_)
  obtain ⟨ws_37, rfl⟩ : ∃ z, z = u := ⟨_, rfl⟩
  obtain ⟨hT, rfl⟩ := hw_36
  have hP : va_P D vwCl ([(mo, .inr (11, [.ref mw, .ref ma, .ref mf, .ref m0, .ref m1, .ref mu, .ref mv, .ref u0, .ref u1, .ref iz, .int th, .ref mb, .int mn, .int mpt, .int mbg, .int mwr, .int mwk, .int mlf, .int men])), (mw, .inl (ct 0, 958, .inl f1_25))] ++ ws_37) H := hP
  have hD : va_D A ([(mo, .inr (11, [.ref mw, .ref ma, .ref mf, .ref m0, .ref m1, .ref mu, .ref mv, .ref u0, .ref u1, .ref iz, .int th, .ref mb, .int mn, .int mpt, .int mbg, .int mwr, .int mwk, .int mlf, .int men])), (mw, .inl (ct 0, 958, .inl f1_25))] ++ ws_37) := hD
  refine lv_imul hx hb dX11_flows_44 ?_
  refine lv_topi (fun x_38 _ => ?_)
  refine lv_sipush (v := 1000) hx hb dX11_flows_45 (by decide) ?_
  refine lv_idiv hx hb dX11_flows_48 (by decide) ?_
  refine lv_topi (fun x_39 _ => ?_)
  refine lv_iadd hx hb dX11_flows_49 ?_
  refine lv_topi (fun x_40 _ => ?_)
  refine lv_aload_n hx hb dX11_flows_50 rfl (lv_at hl 0 rfl) ?_
  refine lv_iload_n hx hb dX11_flows_51 rfl (lv_at hl 1 rfl) ?_
  refine lv_bipush (v := 8) hx hb dX11_flows_52 (by decide) ?_
  refine ty_ki (wr := []) (wc := ([(mo, .inr (11, [.ref mw, .ref ma, .ref mf, .ref m0, .ref m1, .ref mu, .ref mv, .ref u0, .ref u1, .ref iz, .int th, .ref mb, .int mn, .int mpt, .int mbg, .int mwr, .int mwk, .int mlf, .int men])), (mw, .inl (ct 0, 958, .inl f1_25))] ++ ws_37)) (va_runV (As := [.int p1, .int 8]) (rest := [.int x_40]) ⟨hx, hb, hml, hown, hts⟩ (m_of_8 l D ct S ws_37 mo mw ma mf m0 m1 mu mv u0 u1 iz mb th mn mpt mbg mwr mwk mlf men f1_25 G cx p1 _ hT h_mu h_mv h_u0 h_u1 hR_27 hc) (cm_V 2 hts kc_X11_of ki_RX11 kl_RX11_209 kv_X11_of kx_X11_of kd_X11_of ⟨Nat.le_of_ble_eq_true rfl, Nat.le_of_ble_eq_true rfl⟩) (ty_preE (wr := []) (wc := ([(mo, .inr (11, [.ref mw, .ref ma, .ref mf, .ref m0, .ref m1, .ref mu, .ref mv, .ref u0, .ref u1, .ref iz, .int th, .ref mb, .int mn, .int mpt, .int mbg, .int mwr, .int mwk, .int mlf, .int men])), (mw, .inl (ct 0, 958, .inl f1_25))] ++ ws_37)) (ci := 11) (q0 := 0) hP hK hD hS hA hX rfl rfl) rfl rfl hl.1 rfl (lv_room (Nat.le_of_ble_eq_true rfl)) dX11_flows_54 ⟨Nat.le_of_ble_eq_true rfl, Nat.le_of_ble_eq_true rfl⟩) hP hD hS hA (fun r_41 u H locs hw_42 hP hD hS => ?_)
  obtain ⟨ws_43, rfl⟩ : ∃ z, z = u := ⟨_, rfl⟩
  obtain ⟨hT, rfl⟩ := hw_42
  have hP : va_P D vwCl ([(mo, .inr (11, [.ref mw, .ref ma, .ref mf, .ref m0, .ref m1, .ref mu, .ref mv, .ref u0, .ref u1, .ref iz, .int th, .ref mb, .int mn, .int mpt, .int mbg, .int mwr, .int mwk, .int mlf, .int men])), (mw, .inl (ct 0, 958, .inl f1_25))] ++ ws_43) H := hP
  have hD : va_D A ([(mo, .inr (11, [.ref mw, .ref ma, .ref mf, .ref m0, .ref m1, .ref mu, .ref mv, .ref u0, .ref u1, .ref iz, .int th, .ref mb, .int mn, .int mpt, .int mbg, .int mwr, .int mwk, .int mlf, .int men])), (mw, .inl (ct 0, 958, .inl f1_25))] ++ ws_43) := hD
  refine lv_iadd hx hb dX11_flows_57 ?_
  refine lv_topi (fun x_44 _ => ?_)
  refine lv_istore_n (lv' := [(3, .int x_44), (0, .ref mo), (1, .int p1), (2, .int p2)]) hx hb dX11_flows_58 rfl hl (by decide) rfl (fun ls hl => ?_)
  refine lv_aload_n hx hb dX11_flows_59 rfl (lv_at hl 1 rfl) ?_
  refine lv_iload_n hx hb dX11_flows_60 rfl (lv_at hl 2 rfl) ?_
  refine lv_iconst (v := 4) hx hb dX11_flows_61 (by decide) ?_
  refine lv_iload_n hx hb dX11_flows_62 rfl (lv_at hl 3 rfl) ?_
  refine ty_kv (wr := []) (wc := ([(mo, .inr (11, [.ref mw, .ref ma, .ref mf, .ref m0, .ref m1, .ref mu, .ref mv, .ref u0, .ref u1, .ref iz, .int th, .ref mb, .int mn, .int mpt, .int mbg, .int mwr, .int mwk, .int mlf, .int men])), (mw, .inl (ct 0, 958, .inl f1_25))] ++ ws_43)) (va_runV (As := [.int p1, .int 4, .int p2]) (rest := []) ⟨hx, hb, hml, hown, hts⟩ (m_put_4 l D ct S ws_43 mo mw ma mf m0 m1 mu mv u0 u1 iz mb th mn mpt mbg mwr mwk mlf men f1_25 G cx p1 p2 _ hT h_mu h_mv h_u0 h_u1 hR_27 hc) (cm_V 3 hts kc_X11_put ki_RX11 kl_RX11_234 kv_X11_put kx_X11_put kd_X11_put ⟨Nat.le_of_ble_eq_true rfl, Nat.le_of_ble_eq_true rfl⟩) (ty_preE (wr := []) (wc := ([(mo, .inr (11, [.ref mw, .ref ma, .ref mf, .ref m0, .ref m1, .ref mu, .ref mv, .ref u0, .ref u1, .ref iz, .int th, .ref mb, .int mn, .int mpt, .int mbg, .int mwr, .int mwk, .int mlf, .int men])), (mw, .inl (ct 0, 958, .inl f1_25))] ++ ws_43)) (ci := 11) (q0 := 0) hP hK hD hS hA hX rfl rfl) rfl rfl hl.1 rfl (lv_room (Nat.le_of_ble_eq_true rfl)) dX11_flows_63 ⟨Nat.le_of_ble_eq_true rfl, Nat.le_of_ble_eq_true rfl⟩) hP hD hS hA (fun u H locs hw_46 hP hD hS => ?_)
  obtain ⟨ws_47, f1_48⟩ := u
  obtain ⟨hT, hp_49⟩ := hw_46
  have hp_49 : rf_R G cx f1_48 ∧ rf_sm f1_25 f1_48 ∧ f1_48 = upd f1_25 (244 + 54 * p1.toInt.toNat + 4) p2 := hp_49
  have hR_50 := hp_49.1
  have hM_51 := rf_smt hM_28 hp_49.2.1
  have hP : va_P D vwCl ([(mo, .inr (11, [.ref mw, .ref ma, .ref mf, .ref m0, .ref m1, .ref mu, .ref mv, .ref u0, .ref u1, .ref iz, .int th, .ref mb, .int mn, .int mpt, .int mbg, .int mwr, .int mwk, .int mlf, .int men])), (mw, .inl (ct 0, 958, .inl f1_48))] ++ ws_47) H := hP
  have hD : va_D A ([(mo, .inr (11, [.ref mw, .ref ma, .ref mf, .ref m0, .ref m1, .ref mu, .ref mv, .ref u0, .ref u1, .ref iz, .int th, .ref mb, .int mn, .int mpt, .int mbg, .int mwr, .int mwk, .int mlf, .int men])), (mw, .inl (ct 0, 958, .inl f1_48))] ++ ws_47) := hD
  refine lv_aload_n hx hb dX11_flows_66 rfl (lv_at hl 1 rfl) ?_
  refine lv_iload_n hx hb dX11_flows_67 rfl (lv_at hl 2 rfl) ?_
  refine lv_iconst (v := 5) hx hb dX11_flows_68 (by decide) ?_
  refine lv_iload_n hx hb dX11_flows_69 rfl (lv_at hl 0 rfl) ?_
  refine ty_kv (wr := []) (wc := ([(mo, .inr (11, [.ref mw, .ref ma, .ref mf, .ref m0, .ref m1, .ref mu, .ref mv, .ref u0, .ref u1, .ref iz, .int th, .ref mb, .int mn, .int mpt, .int mbg, .int mwr, .int mwk, .int mlf, .int men])), (mw, .inl (ct 0, 958, .inl f1_48))] ++ ws_47)) (va_runV (As := [.int p1, .int 5, .int x_44]) (rest := []) ⟨hx, hb, hml, hown, hts⟩ (m_put_5 l D ct S ws_47 mo mw ma mf m0 m1 mu mv u0 u1 iz mb th mn mpt mbg mwr mwk mlf men f1_48 G cx p1 x_44 _ hT h_mu h_mv h_u0 h_u1 hR_50 hc) (cm_V 3 hts kc_X11_put ki_RX11 kl_RX11_234 kv_X11_put kx_X11_put kd_X11_put ⟨Nat.le_of_ble_eq_true rfl, Nat.le_of_ble_eq_true rfl⟩) (ty_preE (wr := []) (wc := ([(mo, .inr (11, [.ref mw, .ref ma, .ref mf, .ref m0, .ref m1, .ref mu, .ref mv, .ref u0, .ref u1, .ref iz, .int th, .ref mb, .int mn, .int mpt, .int mbg, .int mwr, .int mwk, .int mlf, .int men])), (mw, .inl (ct 0, 958, .inl f1_48))] ++ ws_47)) (ci := 11) (q0 := 0) hP hK hD hS hA hX rfl rfl) rfl rfl hl.1 rfl (lv_room (Nat.le_of_ble_eq_true rfl)) dX11_flows_70 ⟨Nat.le_of_ble_eq_true rfl, Nat.le_of_ble_eq_true rfl⟩) hP hD hS hA (fun u H locs hw_53 hP hD hS => ?_)
  obtain ⟨ws_54, f1_55⟩ := u
  obtain ⟨hT, hp_56⟩ := hw_53
  have hp_56 : rf_R G cx f1_55 ∧ rf_sm f1_48 f1_55 ∧ f1_55 = upd f1_48 (244 + 54 * p1.toInt.toNat + 5) x_44 := hp_56
  have hR_57 := hp_56.1
  have hM_58 := rf_smt hM_51 hp_56.2.1
  have hP : va_P D vwCl ([(mo, .inr (11, [.ref mw, .ref ma, .ref mf, .ref m0, .ref m1, .ref mu, .ref mv, .ref u0, .ref u1, .ref iz, .int th, .ref mb, .int mn, .int mpt, .int mbg, .int mwr, .int mwk, .int mlf, .int men])), (mw, .inl (ct 0, 958, .inl f1_55))] ++ ws_54) H := hP
  have hD : va_D A ([(mo, .inr (11, [.ref mw, .ref ma, .ref mf, .ref m0, .ref m1, .ref mu, .ref mv, .ref u0, .ref u1, .ref iz, .int th, .ref mb, .int mn, .int mpt, .int mbg, .int mwr, .int mwk, .int mlf, .int men])), (mw, .inl (ct 0, 958, .inl f1_55))] ++ ws_54) := hD
  refine lv_iload_n hx hb dX11_flows_73 rfl (lv_at hl 3 rfl) ?_
  refine lv_if_le (tgt := 88) hx hb dX11_flows_74 (by decide) (fun hc_59 => ?_) (fun hc_59 => ?_)
  · refine lv_iload_n hx hb dX11_flows_88 rfl (lv_at hl 3 rfl) ?_
    refine lv_if_ge (tgt := 104) hx hb dX11_flows_89 (by decide) (fun hc_60 => ?_) (fun hc_60 => ?_)
    · exact W.vret hx hb hr (fun t ht hW => ⟨⟨(ws_54, f1_55), rfl, ⟨hT, ⟨hR_57, hM_58⟩⟩, by rw [ht]; exact hP, by rw [hAe]; exact hD⟩, hS.F ht⟩) hS.2.2 dX11_flows_104
    · refine lv_aload_n hx hb dX11_flows_92 rfl (lv_at hl 1 rfl) ?_
      refine lv_iload_n hx hb dX11_flows_93 rfl (lv_at hl 2 rfl) ?_
      refine lv_iconst (v := 3) hx hb dX11_flows_94 (by decide) ?_
      refine lv_iload_n hx hb dX11_flows_95 rfl (lv_at hl 3 rfl) ?_
      refine lv_i2l hx hb dX11_flows_96 rfl ?_
      refine lv_topl (fun x_61 _ => ?_)
      refine lv_lneg hx hb dX11_flows_97 ?_
      refine lv_topl (fun x_62 _ => ?_)
      refine lv_iload_n hx hb dX11_flows_98 rfl (lv_at hl 0 rfl) ?_
      refine lv_i2l hx hb dX11_flows_99 rfl ?_
      refine lv_topl (fun x_63 _ => ?_)
      refine lv_lmul hx hb dX11_flows_100 ?_
      refine lv_topl (fun x_64 _ => ?_)
      have hP : va_P D vwCl ([(mw, .inl (ct 0, 958, .inl f1_55)), (mo, .inr (11, [.ref mw, .ref ma, .ref mf, .ref m0, .ref m1, .ref mu, .ref mv, .ref u0, .ref u1, .ref iz, .int th, .ref mb, .int mn, .int mpt, .int mbg, .int mwr, .int mwk, .int mlf, .int men]))] ++ ws_54) H := ty_permP hP (ty_ordp (E := [(mo, .inr (11, [.ref mw, .ref ma, .ref mf, .ref m0, .ref m1, .ref mu, .ref mv, .ref u0, .ref u1, .ref iz, .int th, .ref mb, .int mn, .int mpt, .int mbg, .int mwr, .int mwk, .int mlf, .int men])), (mw, .inl (ct 0, 958, .inl f1_55))]) (E2 := [(mw, .inl (ct 0, 958, .inl f1_55)), (mo, .inr (11, [.ref mw, .ref ma, .ref mf, .ref m0, .ref m1, .ref mu, .ref mv, .ref u0, .ref u1, .ref iz, .int th, .ref mb, .int mn, .int mpt, .int mbg, .int mwr, .int mwk, .int mlf, .int men]))]) (n := 2) [1, 0] rfl rfl (by decide))
      have hD : va_D A ([(mw, .inl (ct 0, 958, .inl f1_55)), (mo, .inr (11, [.ref mw, .ref ma, .ref mf, .ref m0, .ref m1, .ref mu, .ref mv, .ref u0, .ref u1, .ref iz, .int th, .ref mb, .int mn, .int mpt, .int mbg, .int mwr, .int mwk, .int mlf, .int men]))] ++ ws_54) := ty_permD hD (ty_ordp (E := [(mo, .inr (11, [.ref mw, .ref ma, .ref mf, .ref m0, .ref m1, .ref mu, .ref mv, .ref u0, .ref u1, .ref iz, .int th, .ref mb, .int mn, .int mpt, .int mbg, .int mwr, .int mwk, .int mlf, .int men])), (mw, .inl (ct 0, 958, .inl f1_55))]) (E2 := [(mw, .inl (ct 0, 958, .inl f1_55)), (mo, .inr (11, [.ref mw, .ref ma, .ref mf, .ref m0, .ref m1, .ref mu, .ref mv, .ref u0, .ref u1, .ref iz, .int th, .ref mb, .int mn, .int mpt, .int mbg, .int mwr, .int mwk, .int mlf, .int men]))]) (n := 2) [1, 0] rfl rfl (by decide))
      refine ty_kv (wr := [(mw, .inl (ct 0, 958, .inl f1_55))]) (wc := ([(mo, .inr (11, [.ref mw, .ref ma, .ref mf, .ref m0, .ref m1, .ref mu, .ref mv, .ref u0, .ref u1, .ref iz, .int th, .ref mb, .int mn, .int mpt, .int mbg, .int mwr, .int mwk, .int mlf, .int men]))] ++ ws_54)) (va_runV (As := [.int p1, .int 3, .long x_64]) (rest := []) ⟨hx, hb, hml, hown, hts⟩ (m_X11_adds l D ct S ws_54 mo mw ma mf m0 m1 mu mv u0 u1 iz mb th mn mpt mbg mwr mwk mlf men p1 (3 : Int32) x_64 _ hT h_mu h_mv h_u0 h_u1 (rf_c6 hR_57 hc) (by decide)) (cm_V 3 hts kc_X11_adds ki_RX11 kl_RX11_238 kv_X11_adds kx_X11_adds kd_X11_adds ⟨Nat.le_of_ble_eq_true rfl, Nat.le_of_ble_eq_true rfl⟩) (ty_preE (wr := [(mw, .inl (ct 0, 958, .inl f1_55))]) (wc := ([(mo, .inr (11, [.ref mw, .ref ma, .ref mf, .ref m0, .ref m1, .ref mu, .ref mv, .ref u0, .ref u1, .ref iz, .int th, .ref mb, .int mn, .int mpt, .int mbg, .int mwr, .int mwk, .int mlf, .int men]))] ++ ws_54)) (ci := 11) (q0 := 1) hP hK hD hS hA hX rfl rfl) rfl rfl hl.1 rfl (lv_room (Nat.le_of_ble_eq_true rfl)) dX11_flows_101 ⟨Nat.le_of_ble_eq_true rfl, Nat.le_of_ble_eq_true rfl⟩) hP hD hS hA (fun u H locs hw_66 hP hD hS => ?_)
      obtain ⟨ws_67, rfl⟩ : ∃ z, z = u := ⟨_, rfl⟩
      have hT := hw_66
      have hP : va_P D vwCl ([(mw, .inl (ct 0, 958, .inl f1_55)), (mo, .inr (11, [.ref mw, .ref ma, .ref mf, .ref m0, .ref m1, .ref mu, .ref mv, .ref u0, .ref u1, .ref iz, .int th, .ref mb, .int mn, .int mpt, .int mbg, .int mwr, .int mwk, .int mlf, .int men]))] ++ ws_67) H := hP
      have hD : va_D A ([(mw, .inl (ct 0, 958, .inl f1_55)), (mo, .inr (11, [.ref mw, .ref ma, .ref mf, .ref m0, .ref m1, .ref mu, .ref mv, .ref u0, .ref u1, .ref iz, .int th, .ref mb, .int mn, .int mpt, .int mbg, .int mwr, .int mwk, .int mlf, .int men]))] ++ ws_67) := hD
      have hP : va_P D vwCl ([(mo, .inr (11, [.ref mw, .ref ma, .ref mf, .ref m0, .ref m1, .ref mu, .ref mv, .ref u0, .ref u1, .ref iz, .int th, .ref mb, .int mn, .int mpt, .int mbg, .int mwr, .int mwk, .int mlf, .int men])), (mw, .inl (ct 0, 958, .inl f1_55))] ++ ws_67) H := ty_permP hP (ty_ordp (E := [(mw, .inl (ct 0, 958, .inl f1_55)), (mo, .inr (11, [.ref mw, .ref ma, .ref mf, .ref m0, .ref m1, .ref mu, .ref mv, .ref u0, .ref u1, .ref iz, .int th, .ref mb, .int mn, .int mpt, .int mbg, .int mwr, .int mwk, .int mlf, .int men]))]) (E2 := [(mo, .inr (11, [.ref mw, .ref ma, .ref mf, .ref m0, .ref m1, .ref mu, .ref mv, .ref u0, .ref u1, .ref iz, .int th, .ref mb, .int mn, .int mpt, .int mbg, .int mwr, .int mwk, .int mlf, .int men])), (mw, .inl (ct 0, 958, .inl f1_55))]) (n := 2) [1, 0] rfl rfl (by decide))
      have hD : va_D A ([(mo, .inr (11, [.ref mw, .ref ma, .ref mf, .ref m0, .ref m1, .ref mu, .ref mv, .ref u0, .ref u1, .ref iz, .int th, .ref mb, .int mn, .int mpt, .int mbg, .int mwr, .int mwk, .int mlf, .int men])), (mw, .inl (ct 0, 958, .inl f1_55))] ++ ws_67) := ty_permD hD (ty_ordp (E := [(mw, .inl (ct 0, 958, .inl f1_55)), (mo, .inr (11, [.ref mw, .ref ma, .ref mf, .ref m0, .ref m1, .ref mu, .ref mv, .ref u0, .ref u1, .ref iz, .int th, .ref mb, .int mn, .int mpt, .int mbg, .int mwr, .int mwk, .int mlf, .int men]))]) (E2 := [(mo, .inr (11, [.ref mw, .ref ma, .ref mf, .ref m0, .ref m1, .ref mu, .ref mv, .ref u0, .ref u1, .ref iz, .int th, .ref mb, .int mn, .int mpt, .int mbg, .int mwr, .int mwk, .int mlf, .int men])), (mw, .inl (ct 0, 958, .inl f1_55))]) (n := 2) [1, 0] rfl rfl (by decide))
      exact W.vret hx hb hr (fun t ht hW => ⟨⟨(ws_67, f1_55), rfl, ⟨hT, ⟨hR_57, hM_58⟩⟩, by rw [ht]; exact hP, by rw [hAe]; exact hD⟩, hS.F ht⟩) hS.2.2 dX11_flows_104
  · refine lv_aload_n hx hb dX11_flows_77 rfl (lv_at hl 1 rfl) ?_
    refine lv_iload_n hx hb dX11_flows_78 rfl (lv_at hl 2 rfl) ?_
    refine lv_iconst (v := 2) hx hb dX11_flows_79 (by decide) ?_
    refine lv_iload_n hx hb dX11_flows_80 rfl (lv_at hl 3 rfl) ?_
    refine lv_i2l hx hb dX11_flows_81 rfl ?_
    refine lv_topl (fun x_68 _ => ?_)
    refine lv_iload_n hx hb dX11_flows_82 rfl (lv_at hl 0 rfl) ?_
    refine lv_i2l hx hb dX11_flows_83 rfl ?_
    refine lv_topl (fun x_69 _ => ?_)
    refine lv_lmul hx hb dX11_flows_84 ?_
    refine lv_topl (fun x_70 _ => ?_)
    have hP : va_P D vwCl ([(mw, .inl (ct 0, 958, .inl f1_55)), (mo, .inr (11, [.ref mw, .ref ma, .ref mf, .ref m0, .ref m1, .ref mu, .ref mv, .ref u0, .ref u1, .ref iz, .int th, .ref mb, .int mn, .int mpt, .int mbg, .int mwr, .int mwk, .int mlf, .int men]))] ++ ws_54) H := ty_permP hP (ty_ordp (E := [(mo, .inr (11, [.ref mw, .ref ma, .ref mf, .ref m0, .ref m1, .ref mu, .ref mv, .ref u0, .ref u1, .ref iz, .int th, .ref mb, .int mn, .int mpt, .int mbg, .int mwr, .int mwk, .int mlf, .int men])), (mw, .inl (ct 0, 958, .inl f1_55))]) (E2 := [(mw, .inl (ct 0, 958, .inl f1_55)), (mo, .inr (11, [.ref mw, .ref ma, .ref mf, .ref m0, .ref m1, .ref mu, .ref mv, .ref u0, .ref u1, .ref iz, .int th, .ref mb, .int mn, .int mpt, .int mbg, .int mwr, .int mwk, .int mlf, .int men]))]) (n := 2) [1, 0] rfl rfl (by decide))
    have hD : va_D A ([(mw, .inl (ct 0, 958, .inl f1_55)), (mo, .inr (11, [.ref mw, .ref ma, .ref mf, .ref m0, .ref m1, .ref mu, .ref mv, .ref u0, .ref u1, .ref iz, .int th, .ref mb, .int mn, .int mpt, .int mbg, .int mwr, .int mwk, .int mlf, .int men]))] ++ ws_54) := ty_permD hD (ty_ordp (E := [(mo, .inr (11, [.ref mw, .ref ma, .ref mf, .ref m0, .ref m1, .ref mu, .ref mv, .ref u0, .ref u1, .ref iz, .int th, .ref mb, .int mn, .int mpt, .int mbg, .int mwr, .int mwk, .int mlf, .int men])), (mw, .inl (ct 0, 958, .inl f1_55))]) (E2 := [(mw, .inl (ct 0, 958, .inl f1_55)), (mo, .inr (11, [.ref mw, .ref ma, .ref mf, .ref m0, .ref m1, .ref mu, .ref mv, .ref u0, .ref u1, .ref iz, .int th, .ref mb, .int mn, .int mpt, .int mbg, .int mwr, .int mwk, .int mlf, .int men]))]) (n := 2) [1, 0] rfl rfl (by decide))
    refine ty_kv (wr := [(mw, .inl (ct 0, 958, .inl f1_55))]) (wc := ([(mo, .inr (11, [.ref mw, .ref ma, .ref mf, .ref m0, .ref m1, .ref mu, .ref mv, .ref u0, .ref u1, .ref iz, .int th, .ref mb, .int mn, .int mpt, .int mbg, .int mwr, .int mwk, .int mlf, .int men]))] ++ ws_54)) (va_runV (As := [.int p1, .int 2, .long x_70]) (rest := []) ⟨hx, hb, hml, hown, hts⟩ (m_X11_adds l D ct S ws_54 mo mw ma mf m0 m1 mu mv u0 u1 iz mb th mn mpt mbg mwr mwk mlf men p1 (2 : Int32) x_70 _ hT h_mu h_mv h_u0 h_u1 (rf_c6 hR_57 hc) (by decide)) (cm_V 3 hts kc_X11_adds ki_RX11 kl_RX11_238 kv_X11_adds kx_X11_adds kd_X11_adds ⟨Nat.le_of_ble_eq_true rfl, Nat.le_of_ble_eq_true rfl⟩) (ty_preE (wr := [(mw, .inl (ct 0, 958, .inl f1_55))]) (wc := ([(mo, .inr (11, [.ref mw, .ref ma, .ref mf, .ref m0, .ref m1, .ref mu, .ref mv, .ref u0, .ref u1, .ref iz, .int th, .ref mb, .int mn, .int mpt, .int mbg, .int mwr, .int mwk, .int mlf, .int men]))] ++ ws_54)) (ci := 11) (q0 := 1) hP hK hD hS hA hX rfl rfl) rfl rfl hl.1 rfl (lv_room (Nat.le_of_ble_eq_true rfl)) dX11_flows_85 ⟨Nat.le_of_ble_eq_true rfl, Nat.le_of_ble_eq_true rfl⟩) hP hD hS hA (fun u H locs hw_72 hP hD hS => ?_)
    obtain ⟨ws_73, rfl⟩ : ∃ z, z = u := ⟨_, rfl⟩
    have hT := hw_72
    have hP : va_P D vwCl ([(mw, .inl (ct 0, 958, .inl f1_55)), (mo, .inr (11, [.ref mw, .ref ma, .ref mf, .ref m0, .ref m1, .ref mu, .ref mv, .ref u0, .ref u1, .ref iz, .int th, .ref mb, .int mn, .int mpt, .int mbg, .int mwr, .int mwk, .int mlf, .int men]))] ++ ws_73) H := hP
    have hD : va_D A ([(mw, .inl (ct 0, 958, .inl f1_55)), (mo, .inr (11, [.ref mw, .ref ma, .ref mf, .ref m0, .ref m1, .ref mu, .ref mv, .ref u0, .ref u1, .ref iz, .int th, .ref mb, .int mn, .int mpt, .int mbg, .int mwr, .int mwk, .int mlf, .int men]))] ++ ws_73) := hD
    refine lv_iload_n hx hb dX11_flows_88 rfl (lv_at hl 3 rfl) ?_
    refine lv_if_ge (tgt := 104) hx hb dX11_flows_89 (by decide) (fun hc_74 => ?_) (fun hc_74 => ?_)
    · have hP : va_P D vwCl ([(mo, .inr (11, [.ref mw, .ref ma, .ref mf, .ref m0, .ref m1, .ref mu, .ref mv, .ref u0, .ref u1, .ref iz, .int th, .ref mb, .int mn, .int mpt, .int mbg, .int mwr, .int mwk, .int mlf, .int men])), (mw, .inl (ct 0, 958, .inl f1_55))] ++ ws_73) H := ty_permP hP (ty_ordp (E := [(mw, .inl (ct 0, 958, .inl f1_55)), (mo, .inr (11, [.ref mw, .ref ma, .ref mf, .ref m0, .ref m1, .ref mu, .ref mv, .ref u0, .ref u1, .ref iz, .int th, .ref mb, .int mn, .int mpt, .int mbg, .int mwr, .int mwk, .int mlf, .int men]))]) (E2 := [(mo, .inr (11, [.ref mw, .ref ma, .ref mf, .ref m0, .ref m1, .ref mu, .ref mv, .ref u0, .ref u1, .ref iz, .int th, .ref mb, .int mn, .int mpt, .int mbg, .int mwr, .int mwk, .int mlf, .int men])), (mw, .inl (ct 0, 958, .inl f1_55))]) (n := 2) [1, 0] rfl rfl (by decide))
      have hD : va_D A ([(mo, .inr (11, [.ref mw, .ref ma, .ref mf, .ref m0, .ref m1, .ref mu, .ref mv, .ref u0, .ref u1, .ref iz, .int th, .ref mb, .int mn, .int mpt, .int mbg, .int mwr, .int mwk, .int mlf, .int men])), (mw, .inl (ct 0, 958, .inl f1_55))] ++ ws_73) := ty_permD hD (ty_ordp (E := [(mw, .inl (ct 0, 958, .inl f1_55)), (mo, .inr (11, [.ref mw, .ref ma, .ref mf, .ref m0, .ref m1, .ref mu, .ref mv, .ref u0, .ref u1, .ref iz, .int th, .ref mb, .int mn, .int mpt, .int mbg, .int mwr, .int mwk, .int mlf, .int men]))]) (E2 := [(mo, .inr (11, [.ref mw, .ref ma, .ref mf, .ref m0, .ref m1, .ref mu, .ref mv, .ref u0, .ref u1, .ref iz, .int th, .ref mb, .int mn, .int mpt, .int mbg, .int mwr, .int mwk, .int mlf, .int men])), (mw, .inl (ct 0, 958, .inl f1_55))]) (n := 2) [1, 0] rfl rfl (by decide))
      exact W.vret hx hb hr (fun t ht hW => ⟨⟨(ws_73, f1_55), rfl, ⟨hT, ⟨hR_57, hM_58⟩⟩, by rw [ht]; exact hP, by rw [hAe]; exact hD⟩, hS.F ht⟩) hS.2.2 dX11_flows_104
    · refine lv_aload_n hx hb dX11_flows_92 rfl (lv_at hl 1 rfl) ?_
      refine lv_iload_n hx hb dX11_flows_93 rfl (lv_at hl 2 rfl) ?_
      refine lv_iconst (v := 3) hx hb dX11_flows_94 (by decide) ?_
      refine lv_iload_n hx hb dX11_flows_95 rfl (lv_at hl 3 rfl) ?_
      refine lv_i2l hx hb dX11_flows_96 rfl ?_
      refine lv_topl (fun x_75 _ => ?_)
      refine lv_lneg hx hb dX11_flows_97 ?_
      refine lv_topl (fun x_76 _ => ?_)
      refine lv_iload_n hx hb dX11_flows_98 rfl (lv_at hl 0 rfl) ?_
      refine lv_i2l hx hb dX11_flows_99 rfl ?_
      refine lv_topl (fun x_77 _ => ?_)
      refine lv_lmul hx hb dX11_flows_100 ?_
      refine lv_topl (fun x_78 _ => ?_)
      refine ty_kv (wr := [(mw, .inl (ct 0, 958, .inl f1_55))]) (wc := ([(mo, .inr (11, [.ref mw, .ref ma, .ref mf, .ref m0, .ref m1, .ref mu, .ref mv, .ref u0, .ref u1, .ref iz, .int th, .ref mb, .int mn, .int mpt, .int mbg, .int mwr, .int mwk, .int mlf, .int men]))] ++ ws_73)) (va_runV (As := [.int p1, .int 3, .long x_78]) (rest := []) ⟨hx, hb, hml, hown, hts⟩ (m_X11_adds l D ct S ws_73 mo mw ma mf m0 m1 mu mv u0 u1 iz mb th mn mpt mbg mwr mwk mlf men p1 (3 : Int32) x_78 _ hT h_mu h_mv h_u0 h_u1 (rf_c6 hR_57 hc) (by decide)) (cm_V 3 hts kc_X11_adds ki_RX11 kl_RX11_238 kv_X11_adds kx_X11_adds kd_X11_adds ⟨Nat.le_of_ble_eq_true rfl, Nat.le_of_ble_eq_true rfl⟩) (ty_preE (wr := [(mw, .inl (ct 0, 958, .inl f1_55))]) (wc := ([(mo, .inr (11, [.ref mw, .ref ma, .ref mf, .ref m0, .ref m1, .ref mu, .ref mv, .ref u0, .ref u1, .ref iz, .int th, .ref mb, .int mn, .int mpt, .int mbg, .int mwr, .int mwk, .int mlf, .int men]))] ++ ws_73)) (ci := 11) (q0 := 1) hP hK hD hS hA hX rfl rfl) rfl rfl hl.1 rfl (lv_room (Nat.le_of_ble_eq_true rfl)) dX11_flows_101 ⟨Nat.le_of_ble_eq_true rfl, Nat.le_of_ble_eq_true rfl⟩) hP hD hS hA (fun u H locs hw_80 hP hD hS => ?_)
      obtain ⟨ws_81, rfl⟩ : ∃ z, z = u := ⟨_, rfl⟩
      have hT := hw_80
      have hP : va_P D vwCl ([(mw, .inl (ct 0, 958, .inl f1_55)), (mo, .inr (11, [.ref mw, .ref ma, .ref mf, .ref m0, .ref m1, .ref mu, .ref mv, .ref u0, .ref u1, .ref iz, .int th, .ref mb, .int mn, .int mpt, .int mbg, .int mwr, .int mwk, .int mlf, .int men]))] ++ ws_81) H := hP
      have hD : va_D A ([(mw, .inl (ct 0, 958, .inl f1_55)), (mo, .inr (11, [.ref mw, .ref ma, .ref mf, .ref m0, .ref m1, .ref mu, .ref mv, .ref u0, .ref u1, .ref iz, .int th, .ref mb, .int mn, .int mpt, .int mbg, .int mwr, .int mwk, .int mlf, .int men]))] ++ ws_81) := hD
      have hP : va_P D vwCl ([(mo, .inr (11, [.ref mw, .ref ma, .ref mf, .ref m0, .ref m1, .ref mu, .ref mv, .ref u0, .ref u1, .ref iz, .int th, .ref mb, .int mn, .int mpt, .int mbg, .int mwr, .int mwk, .int mlf, .int men])), (mw, .inl (ct 0, 958, .inl f1_55))] ++ ws_81) H := ty_permP hP (ty_ordp (E := [(mw, .inl (ct 0, 958, .inl f1_55)), (mo, .inr (11, [.ref mw, .ref ma, .ref mf, .ref m0, .ref m1, .ref mu, .ref mv, .ref u0, .ref u1, .ref iz, .int th, .ref mb, .int mn, .int mpt, .int mbg, .int mwr, .int mwk, .int mlf, .int men]))]) (E2 := [(mo, .inr (11, [.ref mw, .ref ma, .ref mf, .ref m0, .ref m1, .ref mu, .ref mv, .ref u0, .ref u1, .ref iz, .int th, .ref mb, .int mn, .int mpt, .int mbg, .int mwr, .int mwk, .int mlf, .int men])), (mw, .inl (ct 0, 958, .inl f1_55))]) (n := 2) [1, 0] rfl rfl (by decide))
      have hD : va_D A ([(mo, .inr (11, [.ref mw, .ref ma, .ref mf, .ref m0, .ref m1, .ref mu, .ref mv, .ref u0, .ref u1, .ref iz, .int th, .ref mb, .int mn, .int mpt, .int mbg, .int mwr, .int mwk, .int mlf, .int men])), (mw, .inl (ct 0, 958, .inl f1_55))] ++ ws_81) := ty_permD hD (ty_ordp (E := [(mw, .inl (ct 0, 958, .inl f1_55)), (mo, .inr (11, [.ref mw, .ref ma, .ref mf, .ref m0, .ref m1, .ref mu, .ref mv, .ref u0, .ref u1, .ref iz, .int th, .ref mb, .int mn, .int mpt, .int mbg, .int mwr, .int mwk, .int mlf, .int men]))]) (E2 := [(mo, .inr (11, [.ref mw, .ref ma, .ref mf, .ref m0, .ref m1, .ref mu, .ref mv, .ref u0, .ref u1, .ref iz, .int th, .ref mb, .int mn, .int mpt, .int mbg, .int mwr, .int mwk, .int mlf, .int men])), (mw, .inl (ct 0, 958, .inl f1_55))]) (n := 2) [1, 0] rfl rfl (by decide))
      exact W.vret hx hb hr (fun t ht hW => ⟨⟨(ws_81, f1_55), rfl, ⟨hT, ⟨hR_57, hM_58⟩⟩, by rw [ht]; exact hP, by rw [hAe]; exact hD⟩, hS.F ht⟩) hS.2.2 dX11_flows_104
